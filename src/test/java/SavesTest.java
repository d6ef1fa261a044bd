/** Promises 21 save and 22 back. */
public final class SavesTest {
    public static void main(String[] args) {
        Due due = new Due("SavesTest");
        numbers(due);
        allComesBack(due);
        newPartsAfterBack(due);
        tapeStays(due);
        savesStay(due);
        otherPartsUnderTheSameNumbers(due);
        fullCircuit(due);
        due.end();
    }

    private static void numbers(Due due) {
        EventWaves x = new EventWaves();
        due.is("back without a save", x.back(0), false);
        for (int i = 0; i < 4; i++) {
            due.is("save", x.save(), i);
            due.is("back", x.back(i), true);
            due.is("back to the next one", x.back(i + 1), false);
        }
        due.refuses("save 4", Due.STATE, x::save);
        due.is("back(4)", x.back(4), false);
        due.is("back(-1)", x.back(-1), false);
        due.is("back far beyond", x.back(Integer.MAX_VALUE), false);
        due.is("back far below", x.back(Integer.MIN_VALUE), false);
    }

    private static EventWaves busy() {
        EventWaves x = new EventWaves();
        busyOn(x);
        return x;
    }

    /** Brings a new object to a state each part of which is other than at first. */
    private static void busyOn(EventWaves x) {
        for (int i = 0; i < 5; i++) {
            x.net();
        }
        x.gate(7, 0, 1, 2);
        x.gate(0, 0, 0, 3);
        x.delay(1, 10, 10);
        x.check(0, 1, 0, 5);
        x.check(1, 1, 0, 5);
        x.spike(1);
        x.drive(0, 10, 0);
        x.drive(1, 10, 0);
        x.drive(0, 28, 1);
        x.drive(1, 29, 1);
        x.drive(0, 31, 0);
        x.force(4, 31, 1);
        x.drive(4, 31, 0);
        x.release(4, 40);
        x.drive(0, 41, 1);
        x.run(33);
    }

    private static String stateOf(EventWaves x, int nets, int checks) {
        return seen(x, nets, checks) + Due.textOf(x);
    }

    private static String seen(EventWaves x, int nets, int checks) {
        StringBuilder text = new StringBuilder();
        text.append("now ").append(x.now()).append(" levels ").append(x.levels());
        for (int n = 0; n < nets; n++) {
            text.append(" net ").append(x.value(n)).append(' ').append(x.counted(n));
        }
        for (int c = 0; c < checks; c++) {
            text.append(" check ").append(x.broken(c));
        }
        return text.toString();
    }

    private static void allComesBack(Due due) {
        EventWaves x = busy();
        EventWaves same = busy();
        String before = stateOf(x, 5, 2);
        x.save();
        x.net();
        x.gate(1, 0, 0, 3);
        x.delay(1, 0, 1000);
        x.delay(0, 5, 5);
        x.check(0, 3, 3, 7);
        x.spike(0);
        x.drive(5, 35, 1);
        x.force(0, 34, 2);
        x.drive(1, 36, 0);
        x.drive(1, 37, 1);
        x.run(200);
        due.is("something has changed", stateOf(x, 5, 2).equals(before), false);
        due.is("back", x.back(0), true);
        due.is("what is seen", stateOf(x, 5, 2), before);
        due.refuses("the new net is gone", Due.INDEX, () -> x.value(5));
        due.refuses("the new gate is gone", Due.INDEX, () -> x.delay(2, 1, 1) ? 1 : 0);
        due.refuses("the new check is gone", Due.INDEX, () -> x.broken(2));
        due.is("the rule", x.spike(1), false);
        due.is("the delays", x.delay(1, 10, 10), false);
        due.is("the hand events", x.drive(0, 44, 1), same.drive(0, 44, 1));
        due.is("what waits comes", x.run(200), same.run(200));
        due.is("as without it", stateOf(x, 5, 2), stateOf(same, 5, 2));
        due.is("the checks were broken", x.broken(0) > 0 && x.broken(1) > 0, true);
    }

    private static void newPartsAfterBack(Due due) {
        EventWaves x = new EventWaves();
        x.save();
        x.net();
        x.gate(1, 0, 0, 0);
        x.delay(0, 9, 9);
        x.check(0, 0, 0, 1000);
        x.drive(0, 1, 0);
        x.force(0, 2, 1);
        x.run(50);
        x.back(0);
        due.is("net 0 is new again", x.net(), 0);
        due.is("UNKNOWN", x.value(0), 2);
        due.is("without changes", x.counted(0), 0);
        due.is("gate 0 is new again", x.gate(2, 0, 0, 0), 0);
        due.is("with the first delays", x.delay(0, 1, 1), false);
        due.is("check 0 is new again", x.check(1, 0, 0, 5), 0);
        due.is("not broken", x.broken(0), 0);
        x.drive(0, 3, 0);
        x.run(10);
        due.is("neither forced nor driven", x.value(0), 2);
    }

    private static void tapeStays(Due due) {
        EventWaves x = Due.withNets(1);
        Due.put(x, "#5");
        x.save();
        Due.put(x, " 1!");
        x.back(0);
        due.is("the tape is not remembered", x.read(), 1);
        x.back(0);
        due.is("the tape stays empty", x.read(), 0);
        due.is("the hand event is gone", x.run(10), 0);
    }

    private static void savesStay(Due due) {
        EventWaves x = Due.withNets(1);
        x.save();
        x.drive(0, 5, 1);
        x.run(5);
        x.save();
        x.drive(0, 9, 0);
        x.run(9);
        x.save();
        due.is("back to the first", x.back(0), true);
        due.is("now", x.now(), 0);
        due.is("a later one is there yet", x.back(2), true);
        due.is("now", x.now(), 9);
        due.is("its value", x.value(0), 0);
        x.run(100);
        x.back(1);
        due.is("now", x.now(), 5);
        due.is("its value", x.value(0), 1);
        due.is("the next number", x.save(), 3);
        x.run(50);
        x.back(3);
        due.is("now", x.now(), 5);
        due.refuses("no more saves", Due.STATE, x::save);
    }

    /** Two circuits grow from an empty one, and the first is come back to while the second stands. */
    private static EventWaves busyBesideAnother() {
        EventWaves x = new EventWaves();
        x.save();
        busyOn(x);
        x.save();
        x.back(0);
        otherOn(x);
        x.back(1);
        return x;
    }

    private static void otherPartsUnderTheSameNumbers(Due due) {
        due.is("the first one again", stateOf(busyBesideAnother(), 5, 2), stateOf(busy(), 5, 2));
        for (int t = 34; t < 60; t++) {
            EventWaves x = busyBesideAnother();
            EventWaves same = busy();
            due.is("events up to " + t, x.run(t), same.run(t));
            due.is("the state at " + t, stateOf(x, 5, 2), stateOf(same, 5, 2));
        }
        EventWaves x = pushed(busyBesideAnother());
        due.is("its gates and checks", stateOf(x, 5, 2), stateOf(pushed(busy()), 5, 2));
        due.is("the checks were broken once more", x.broken(0) + x.broken(1), 4);
    }

    private static EventWaves pushed(EventWaves x) {
        x.run(60);
        x.drive(1, 62, 0);
        x.drive(0, 64, 0);
        x.drive(1, 65, 1);
        x.drive(0, 67, 1);
        x.run(100);
        return x;
    }

    private static void otherOn(EventWaves x) {
        for (int i = 0; i < 6; i++) {
            x.net();
        }
        x.gate(5, 3, 4, 0);
        x.gate(1, 5, 5, 1);
        x.delay(0, 3, 4);
        x.delay(1, 2, 2);
        x.check(1, 5, 4, 900);
        x.check(0, 5, 4, 900);
        for (int i = 0; i < 40; i++) {
            x.drive(i % 6, 3 + i, (i / 6 + i) % 4);
        }
        x.run(30);
    }

    private static EventWaves full() {
        EventWaves x = Due.withNets(24);
        for (int i = 0; i < 32; i++) {
            x.gate(i % 8, i % 24, i * 7 % 24, i * 5 % 24);
        }
        for (int i = 0; i < 20; i++) {
            x.check(i % 2, i, i + 3, i);
        }
        for (int i = 0; i < 100; i++) {
            x.drive(i % 24, i, i % 2);
        }
        return x;
    }

    private static EventWaves fullAgain() {
        EventWaves x = full();
        x.save();
        x.run(60);
        x.back(0);
        return x;
    }

    private static EventWaves ranOn(EventWaves x) {
        x.run(60);
        return x;
    }

    private static void fullCircuit(Due due) {
        EventWaves x = full();
        due.is("save of a full circuit", x.save(), 0);
        due.is("back to a full circuit", x.back(0), true);
        due.is("its events", fullAgain().run(60), full().run(60));
        due.is("its state", seen(fullAgain(), 24, 20), seen(full(), 24, 20));
        due.is("its text", Due.textOf(SavesTest::fullAgain), Due.textOf(SavesTest::full));
        due.is("its state after them", seen(ranOn(fullAgain()), 24, 20), seen(ranOn(full()), 24, 20));
        due.is("its text after them", Due.textOf(() -> ranOn(fullAgain())), Due.textOf(() -> ranOn(full())));
    }
}
