/** The sentences of promises 21 and 22 that name a boundary, one test for each. */
public final class SaveLimitsTest {
    public static void main(String[] args) {
        Due due = new Due("SaveLimitsTest");
        fourTimes(due);
        suchANumber(due);
        emptyState(due);
        busyState(due);
        otherPartsUnderItsNumbers(due);
        whatIsBehindComesBack(due);
        checksComeBack(due);
        butTheTape(due);
        butWhatIsRemembered(due);
        numbersAfterBack(due);
        fullHands(due);
        fullChanges(due);
        atTheLastTime(due);
        inTheMidstOfALoop(due);
        due.end();
    }

    private static void fourTimes(Due due) {
        due.says("All is remembered but the tape (four times at most): the number of what is remembered.");
        EventWaves x = new EventWaves();
        for (int i = 0; i < 4; i++) {
            x.run(10 * i);
            due.is("a save", x.save(), i);
        }
        due.refuses("the fifth", Due.STATE, x::save);
        x.run(50);
        due.refuses("the fifth, once more", Due.STATE, x::save);
        for (int i = 3; i >= 0; i--) {
            due.is("back", x.back(i), true);
            due.is("its now", x.now(), 10 * i);
            due.refuses("the fifth, after back", Due.STATE, x::save);
        }
    }

    private static void suchANumber(Due due) {
        due.says("whether there is such a number");
        EventWaves x = new EventWaves();
        for (int count = 0; count <= 4; count++) {
            for (int no : new int[] {-1, count, 4, 5, Integer.MIN_VALUE, Integer.MAX_VALUE}) {
                due.is("back to " + no + " of " + count, x.back(no), false);
            }
            for (int i = 0; i < count; i++) {
                due.is("back to " + i + " of " + count, x.back(i), true);
            }
            if (count < 4) {
                x.save();
            }
        }
    }

    private static void emptyState(Due due) {
        due.says("All but the tape (and what is remembered) becomes as it was remembered");
        due.is("an empty object again", Story.of(SaveLimitsTest::emptyAgain), Story.of(SaveLimitsTest::emptySaved));
    }

    private static EventWaves emptySaved() {
        EventWaves x = new EventWaves();
        x.save();
        return x;
    }

    private static EventWaves emptyAgain() {
        EventWaves x = emptySaved();
        x.net();
        x.gate(5, 0, 0, 0);
        x.check(0, 0, 0, 5);
        x.spike(1);
        x.drive(0, 5, 1);
        x.drive(0, 9, 0);
        x.run(7);
        x.back(0);
        return x;
    }

    private static void busyState(Due due) {
        due.says("All but the tape (and what is remembered) becomes as it was remembered");
        due.is("the busy object again", Story.of(SaveLimitsTest::busyAgain), Story.of(SaveLimitsTest::busySaved));
    }

    private static EventWaves busySaved() {
        EventWaves x = States.busy();
        x.save();
        return x;
    }

    private static EventWaves busyAgain() {
        EventWaves x = busySaved();
        x.net();
        x.gate(1, 0, 0, 3);
        x.delay(0, 5, 7);
        x.delay(1, 0, 1000);
        x.check(0, 3, 3, 7);
        x.spike(0);
        x.drive(5, 35, 1);
        x.force(0, 34, 2);
        x.drive(1, 36, 0);
        x.drive(1, 37, 1);
        x.run(200);
        x.back(1);
        return x;
    }

    /** What is remembered stands while another circuit grows in its place, from the empty one that is saved first. */
    private static void otherPartsUnderItsNumbers(Due due) {
        due.says("becomes as it was remembered");
        due.is("the busy object again", Story.of(SaveLimitsTest::busyBesideAnother), Story.of(SaveLimitsTest::busyBehindEmpty));
        EventWaves y = emptySaved();
        States.busyOn(y);
        y.back(0);
        States.otherOn(y);
        EventWaves other = new EventWaves();
        States.otherOn(other);
        due.is("the other one has nothing of it", seen(y), seen(other));
    }

    private static EventWaves busyBehindEmpty() {
        EventWaves x = emptySaved();
        States.busyOn(x);
        x.save();
        return x;
    }

    private static EventWaves busyBesideAnother() {
        EventWaves x = busyBehindEmpty();
        x.back(0);
        States.otherOn(x);
        x.back(2);
        return x;
    }

    private static String seen(EventWaves x) {
        StringBuilder text = new StringBuilder();
        for (int i = 0; i < 30; i++) {
            text.append("run ").append(x.run(x.now() + 1)).append(' ');
        }
        for (int c = 0; c < 2; c++) {
            text.append("check ").append(x.broken(c)).append(' ');
        }
        for (int n = 0; n < 6; n++) {
            text.append("net ").append(x.value(n)).append(' ').append(x.counted(n)).append(' ');
        }
        return text.append(Due.textOf(x)).toString();
    }

    private static void whatIsBehindComesBack(Due due) {
        due.says("becomes as it was remembered");
        EventWaves x = Due.withNets(2);
        x.gate(0, 0, 0, 1);
        x.delay(0, 10, 10);
        x.spike(1);
        x.save();
        x.drive(0, 10, 1);
        x.drive(0, 12, 0);
        x.run(13);
        x.save();
        x.back(0);
        x.drive(0, 11, 0);
        x.drive(0, 19, 1);
        x.run(20);
        x.back(1);
        due.is("UNKNOWN, which it has", x.run(20), 1);
        due.is("not before its time", x.run(21), 0);
        due.is("what was behind", x.run(22), 1);
        due.is("its value", x.value(1), 0);
    }

    private static void checksComeBack(Due due) {
        due.says("becomes as it was remembered");
        EventWaves x = Due.withNets(4);
        x.save();
        x.check(0, 1, 0, 5);
        x.drive(1, 10, 0);
        x.drive(0, 18, 1);
        x.run(18);
        x.save();
        x.back(0);
        x.check(1, 3, 2, 900);
        x.drive(0, 3, 1);
        x.run(18);
        x.back(1);
        x.drive(1, 20, 1);
        x.run(20);
        due.is("a rise behind a change that is remembered", x.broken(0), 1);
        x.back(1);
        due.is("not yet broken", x.broken(0), 0);
    }

    private static void butTheTape(Due due) {
        due.says("All is remembered but the tape");
        EventWaves x = Due.withNets(1);
        Due.put(x, "#5 1!");
        x.save();
        due.is("a save leaves the tape", x.read(), 1);
        x.back(0);
        due.is("what was read is not told", x.run(9), 0);
        x.back(0);
        due.is("the tape does not come back", x.read(), 0);
        Due.put(x, "#6 0!");
        x.back(0);
        due.is("nor does it go", x.read(), 1);
    }

    private static void butWhatIsRemembered(Due due) {
        due.says("(and what is remembered)");
        EventWaves x = Due.withNets(1);
        x.save();
        x.drive(0, 5, 1);
        x.run(5);
        x.save();
        x.back(0);
        due.is("a later one is there yet", x.back(1), true);
        due.is("its value", x.value(0), 1);
        x.drive(0, 6, 0);
        x.run(6);
        x.back(1);
        due.is("and it is as it was", x.value(0), 1);
        due.is("with no event more", x.run(9), 0);
        x.back(0);
        due.is("so is the first one", x.value(0), 2);
    }

    private static void numbersAfterBack(Due due) {
        due.says("becomes as it was remembered");
        EventWaves x = Due.withNets(23);
        for (int i = 0; i < 31; i++) {
            x.gate(0, 0, 0, 1);
        }
        for (int i = 0; i < 19; i++) {
            x.check(0, 0, 1, 1);
        }
        x.save();
        for (int turn = 0; turn < 2; turn++) {
            due.is("the last net", x.net(), 23);
            due.is("the last gate", x.gate(0, 23, 0, 1), 31);
            due.is("the last check", x.check(0, 23, 1, 1), 19);
            due.refuses("no net more", Due.STATE, x::net);
            due.refuses("no gate more", Due.STATE, () -> x.gate(0, 0, 0, 1));
            due.refuses("no check more", Due.STATE, () -> x.check(0, 0, 1, 1));
            x.back(0);
            due.refuses("the net is gone", Due.INDEX, () -> x.value(23));
            due.refuses("the gate is gone", Due.INDEX, () -> x.delay(31, 1, 1) ? 1 : 0);
            due.refuses("the check is gone", Due.INDEX, () -> x.broken(19));
        }
    }

    private static void fullHands(Due due) {
        due.says("All but the tape (and what is remembered) becomes as it was remembered");
        EventWaves x = Due.withNets(1);
        for (int i = 0; i < 99; i++) {
            x.drive(0, i, i % 2);
        }
        x.save();
        due.is("the hundredth", x.drive(0, 99, 1), 100);
        x.save();
        x.run(200);
        x.back(1);
        due.refuses("100 wait again", Due.STATE, () -> x.drive(0, 200, 0));
        due.is("and come", x.run(200), 100);
        x.back(0);
        due.is("99 wait again", x.drive(0, 150, 1), 100);
        due.is("and come", x.run(200), 100);
        due.is("the last one", x.change(99, 0), 150);
    }

    private static EventWaves ring(int delay) {
        EventWaves x = Due.withNets(3);
        x.gate(2, 0, 1, 2);
        x.gate(1, 2, 2, 1);
        x.drive(0, 10, 0);
        x.run(15);
        x.delay(0, delay, delay);
        x.delay(1, delay, delay);
        x.drive(0, 20, 1);
        return x;
    }

    private static EventWaves ringSaved() {
        EventWaves x = ring(1);
        for (int i = 0; i < 3; i++) {
            x.run(100000);
        }
        x.save();
        return x;
    }

    private static EventWaves ringSavedTwice() {
        EventWaves x = ringSaved();
        x.run(100000);
        x.run(100000);
        x.save();
        return x;
    }

    private static EventWaves ringBackTo(int saved) {
        EventWaves x = ringSavedTwice();
        x.back(0);
        x.back(saved);
        return x;
    }

    private static void fullChanges(Due due) {
        due.says("becomes as it was remembered");
        int kept = ringSaved().change(0, 3);
        due.is("not yet full", kept > 300 && kept < 600, true);
        due.is("full", ringSavedTwice().change(0, 3), 600);
        EventWaves x = ringBackTo(0);
        due.is("as many as before", x.change(0, 3), kept);
        due.refuses("the others are gone", Due.INDEX, () -> x.change(kept, 0));
        due.is("the text", Due.textOf(() -> ringBackTo(0)), Due.textOf(SaveLimitsTest::ringSaved));
        due.is("full again", ringBackTo(1).change(0, 3), 600);
        due.is("the full text", Due.textOf(() -> ringBackTo(1)), Due.textOf(SaveLimitsTest::ringSavedTwice));
    }

    private static void atTheLastTime(Due due) {
        due.says("becomes as it was remembered");
        EventWaves x = Due.withNets(1);
        x.run(3);
        x.save();
        x.run(1000000000L);
        due.refuses("no time before now", Due.ARGUMENT, () -> x.run(4));
        x.back(0);
        due.is("now", x.now(), 3);
        due.is("there is time again", x.run(4), 0);
        x.back(0);
        due.refuses("at() beyond now again", Due.ARGUMENT, () -> x.at(0, 4));
        due.refuses("and no time before that", Due.ARGUMENT, () -> x.drive(0, 2, 1));
    }

    private static void inTheMidstOfALoop(Due due) {
        due.says("becomes as it was remembered");
        EventWaves x = ring(0);
        due.is("a loop", x.run(1000), -3);
        x.save();
        x.drive(0, 20, 0);
        x.run(1000);
        x.back(0);
        due.is("now", x.now(), 20);
        due.is("it waits yet", x.run(1000), -3);
    }
}
