/** The sentences of "3 CHECKS" and of promises 9 and 10 that name a boundary, one test for each. */
public final class CheckLimitsTest {
    private static final int SET_UP = 0;
    private static final int HOLD = 1;

    public static void main(String[] args) {
        Due due = new Due("CheckLimitsTest");
        twenty(due);
        kindsOfChecks(due);
        limits(due);
        noSuchCheck(due);
        setUpAtARise(due);
        setUpLessThanLimit(due);
        setUpAtThatTime(due);
        setUpByAnEarlierChange(due);
        setUpForEachValue(due);
        holdAfterARise(due);
        holdLessThanLimit(due);
        holdAtThatTime(due);
        holdByAnEarlierRise(due);
        holdForEachValue(due);
        noChangeNoBreak(due);
        registersAreAsked(due);
        thirtyTwoRegisters(due);
        otherGatesAreNot(due);
        behindAllOthers(due);
        severalChecks(due);
        beyondSixHundred(due);
        due.end();
    }

    private static void twenty(Due due) {
        due.says("A new check (20 at most): its number.");
        EventWaves x = Due.withNets(2);
        for (int i = 0; i < 20; i++) {
            int c = i;
            due.refuses("check " + c + " before it is made", Due.INDEX, () -> x.broken(c));
            due.is("a new check", x.check(c % 2, 0, 1, c), c);
            due.is("not broken", x.broken(c), 0);
        }
        due.refuses("a check too many", Due.STATE, () -> x.check(0, 0, 1, 5));
        due.refuses("and once more", Due.STATE, () -> x.check(1, 1, 0, 5));
        due.is("the last one", x.broken(19), 0);
        due.refuses("no check 20", Due.INDEX, () -> x.broken(20));
    }

    private static void kindsOfChecks(Due due) {
        due.says("IllegalArgumentException: no such kind");
        EventWaves x = Due.withNets(2);
        for (int kind : new int[] {-1, 2, Integer.MIN_VALUE, Integer.MAX_VALUE}) {
            due.refuses("kind " + kind, Due.ARGUMENT, () -> x.check(kind, 0, 1, 5));
        }
        due.is("kind 0", x.check(0, 0, 1, 5), 0);
        due.is("kind 1", x.check(1, 0, 1, 5), 1);
    }

    private static void limits(Due due) {
        due.says("or the limit is not 0 .. 1000");
        EventWaves x = Due.withNets(2);
        for (int limit : new int[] {-1, 1001, Integer.MIN_VALUE, Integer.MAX_VALUE}) {
            due.refuses("set-up, limit " + limit, Due.ARGUMENT, () -> x.check(SET_UP, 0, 1, limit));
            due.refuses("hold, limit " + limit, Due.ARGUMENT, () -> x.check(HOLD, 0, 1, limit));
        }
        due.is("set-up, limit 0", x.check(SET_UP, 0, 1, 0), 0);
        due.is("set-up, limit 1000", x.check(SET_UP, 0, 1, 1000), 1);
        due.is("hold, limit 0", x.check(HOLD, 0, 1, 0), 2);
        due.is("hold, limit 1000", x.check(HOLD, 0, 1, 1000), 3);
    }

    private static void noSuchCheck(Due due) {
        due.says("IndexOutOfBoundsException: there is no such net, gate, check or change.");
        for (int count : new int[] {0, 1, 19, 20}) {
            EventWaves x = Due.withNets(1);
            for (int i = 0; i < count; i++) {
                x.check(0, 0, 0, 1);
            }
            for (int number : new int[] {count, -1, Integer.MIN_VALUE, Integer.MAX_VALUE}) {
                due.refuses("broken of " + number, Due.INDEX, () -> x.broken(number));
            }
            if (count > 0) {
                due.is("broken of the last one", x.broken(count - 1), 0);
            }
        }
    }

    /** Clock 1 and data 2, each 0 from time 5 on; it is 5000 now. */
    private static EventWaves quiet(int kind, int limit) {
        EventWaves x = Due.withNets(4);
        x.check(kind, 1, 2, limit);
        x.drive(1, 5, 0);
        x.drive(2, 5, 0);
        x.run(5000);
        return x;
    }

    private static int broken(EventWaves x) {
        x.run(10000);
        return x.broken(0);
    }

    private static void setUpAtARise(Due due) {
        due.says("Kind 0, SET-UP: the clock becomes 1 (from 0)");
        for (int from = 0; from < 4; from++) {
            for (int to = 0; to < 4; to++) {
                EventWaves x = Due.withNets(4);
                x.check(SET_UP, 1, 2, 10);
                x.force(1, 100, from);
                x.drive(2, 200, 0);
                x.force(1, 205, to);
                due.is("from " + from + " to " + to, broken(x), from == 0 && to == 1 ? 1 : 0);
            }
        }
    }

    private static void setUpLessThanLimit(Due due) {
        due.says("and the data took another value less than LIMIT before");
        for (int limit : new int[] {1, 2, 999, 1000}) {
            for (int before = limit - 1; before <= limit + 1; before++) {
                EventWaves x = Due.withNets(3);
                x.check(SET_UP, 2, 1, limit);
                x.drive(1, 5, 0);
                x.drive(2, 5, 0);
                x.drive(1, 8000 - before, 1);
                x.drive(2, 8000, 1);
                due.is("limit " + limit + ", " + before + " before", broken(x), before < limit ? 1 : 0);
            }
        }
        EventWaves y = Due.withNets(4);
        y.check(SET_UP, 1, 2, 1000);
        y.drive(1, 1, 0);
        y.drive(1, 2, 1);
        due.is("data that never took another value", broken(y), 0);
    }

    private static void setUpAtThatTime(Due due) {
        due.says("(at that time, by an earlier change, is 0 before: with LIMIT 0 none is)");
        for (int limit = 0; limit < 3; limit++) {
            EventWaves x = Due.withNets(3);
            x.check(SET_UP, 2, 1, limit);
            x.drive(1, 5, 0);
            x.drive(2, 5, 0);
            x.drive(1, 100, 1);
            x.drive(2, 100, 1);
            due.is("data first, limit " + limit, broken(x), limit > 0 ? 1 : 0);
            EventWaves y = quiet(SET_UP, limit);
            y.drive(2, 6000, 1);
            y.drive(1, 6000, 1);
            due.is("clock first, limit " + limit, broken(y), 0);
        }
    }

    private static void setUpByAnEarlierChange(Due due) {
        due.says("by an earlier change");
        EventWaves x = Due.withNets(1);
        x.check(SET_UP, 0, 0, 5);
        x.drive(0, 100, 0);
        x.drive(0, 105, 1);
        due.is("a rise is no earlier change than itself", broken(x), 0);
        EventWaves y = Due.withNets(1);
        y.check(SET_UP, 0, 0, 5);
        y.drive(0, 100, 0);
        y.drive(0, 104, 1);
        due.is("the change to 0 is", broken(y), 1);
    }

    private static void setUpForEachValue(Due due) {
        due.says("the data took another value");
        for (int v = 1; v < 4; v++) {
            EventWaves x = quiet(SET_UP, 10);
            x.drive(2, 6000, v);
            x.drive(1, 6005, 1);
            due.is("data to " + v, broken(x), 1);
        }
        EventWaves y = quiet(SET_UP, 10);
        y.drive(2, 6000, 1);
        y.drive(2, 6001, 0);
        y.drive(1, 6005, 1);
        due.is("data there and back: once", broken(y), 1);
        EventWaves z = quiet(SET_UP, 10);
        z.drive(2, 6000, 1);
        z.drive(1, 6005, 1);
        z.drive(1, 6006, 0);
        z.drive(1, 6007, 1);
        z.drive(1, 6008, 0);
        z.drive(1, 6010, 1);
        due.is("each rise, and the third one is 10 behind", broken(z), 2);
    }

    private static void holdAfterARise(Due due) {
        due.says("Kind 1, HOLD: the data takes another value, and the clock became 1 (from 0)");
        for (int from = 0; from < 4; from++) {
            for (int to = 0; to < 4; to++) {
                EventWaves x = Due.withNets(4);
                x.check(HOLD, 1, 2, 10);
                x.force(1, 100, from);
                x.force(1, 205, to);
                x.drive(2, 206, 0);
                due.is("from " + from + " to " + to, broken(x), from == 0 && to == 1 ? 1 : 0);
            }
        }
    }

    private static void holdLessThanLimit(Due due) {
        due.says("less than LIMIT before (likewise)");
        for (int limit : new int[] {1, 2, 999, 1000}) {
            for (int before = limit - 1; before <= limit + 1; before++) {
                EventWaves x = quiet(HOLD, limit);
                x.drive(1, 8000 - before, 1);
                x.drive(2, 8000, 1);
                due.is("limit " + limit + ", " + before + " before", broken(x), before < limit ? 1 : 0);
            }
        }
        EventWaves y = quiet(HOLD, 1000);
        y.drive(2, 5001, 1);
        due.is("a clock that never rose", broken(y), 0);
    }

    private static void holdAtThatTime(Due due) {
        due.says("less than LIMIT before (likewise)");
        for (int limit = 0; limit < 3; limit++) {
            EventWaves x = quiet(HOLD, limit);
            x.drive(2, 6000, 1);
            x.drive(1, 6000, 1);
            due.is("clock first, limit " + limit, broken(x), limit > 0 ? 1 : 0);
            EventWaves y = Due.withNets(3);
            y.check(HOLD, 2, 1, limit);
            y.drive(1, 5, 0);
            y.drive(2, 5, 0);
            y.drive(1, 100, 1);
            y.drive(2, 100, 1);
            due.is("data first, limit " + limit, broken(y), 0);
        }
    }

    private static void holdByAnEarlierRise(Due due) {
        due.says("by an earlier change");
        EventWaves x = Due.withNets(1);
        x.check(HOLD, 0, 0, 5);
        x.drive(0, 100, 0);
        x.drive(0, 101, 1);
        x.drive(0, 106, 0);
        due.is("a rise is no earlier one than itself, and LIMIT behind is not less", broken(x), 0);
        EventWaves y = Due.withNets(1);
        y.check(HOLD, 0, 0, 5);
        y.drive(0, 100, 0);
        y.drive(0, 101, 1);
        y.drive(0, 105, 0);
        due.is("less behind it", broken(y), 1);
    }

    private static void holdForEachValue(Due due) {
        due.says("the data takes another value");
        for (int v = 1; v < 4; v++) {
            EventWaves x = quiet(HOLD, 10);
            x.drive(1, 6000, 1);
            x.drive(2, 6005, v);
            due.is("data to " + v, broken(x), 1);
        }
        EventWaves y = quiet(HOLD, 10);
        y.drive(1, 6000, 1);
        y.drive(1, 6001, 0);
        for (int i = 0; i < 20; i++) {
            y.drive(2, 6002 + i, (i + 1) % 2);
        }
        due.is("each change up to 9 behind, and the clock may be 0 again", broken(y), 8);
    }

    private static void noChangeNoBreak(Due due) {
        due.says("A CHANGE is a net that takes another value");
        EventWaves x = quiet(HOLD, 10);
        x.drive(1, 6000, 1);
        x.drive(2, 6001, 0);
        x.force(2, 6002, 0);
        x.release(2, 6003);
        due.is("events of the data that change nothing", broken(x), 0);
        EventWaves y = quiet(SET_UP, 10);
        y.drive(1, 6000, 1);
        y.drive(2, 6001, 1);
        y.drive(1, 6002, 1);
        due.is("events of the clock that change nothing", broken(y), 0);
    }

    /** Registers 0 and 1 of clock 1 and data 2, on nets 3 and 4; both have 1, clock and data are 0; it is 200. */
    private static EventWaves registers(int kind, int limit) {
        EventWaves x = Due.withNets(8);
        x.gate(7, 2, 1, 3);
        x.gate(7, 2, 1, 4);
        x.check(kind, 1, 2, limit);
        x.drive(1, 5, 0);
        x.drive(2, 5, 1);
        x.drive(1, 50, 1);
        x.drive(1, 100, 0);
        x.drive(2, 150, 0);
        x.run(200);
        return x;
    }

    private static void registersAreAsked(Due due) {
        due.says("and each register with B the clock and A the data is asked, as if it gave UNKNOWN");
        EventWaves x = registers(SET_UP, 3);
        x.drive(2, 210, 1);
        x.drive(1, 212, 1);
        due.is("set-up: two hand events and two registers'", x.run(300), 4);
        EventWaves y = registers(HOLD, 3);
        y.drive(1, 210, 1);
        y.drive(2, 212, 1);
        due.is("hold: two hand events and twice two registers'", y.run(300), 6);
        for (int n = 3; n < 5; n++) {
            due.is("set-up, before: net " + n, x.at(n, 212), 1);
            due.is("set-up, UNKNOWN: net " + n, x.at(n, 213), 2);
            due.is("hold, first 0: net " + n, y.at(n, 212), 0);
            due.is("hold, then UNKNOWN: net " + n, y.at(n, 213), 2);
        }
        due.is("broken once for both", x.broken(0), 1);
        EventWaves z = Due.withNets(3);
        z.check(SET_UP, 1, 2, 3);
        z.drive(1, 5, 0);
        z.drive(2, 6, 0);
        z.drive(1, 7, 1);
        z.run(9);
        due.is("broken without a register", z.broken(0), 1);
    }

    private static void thirtyTwoRegisters(Due due) {
        due.says("each register with B the clock and A the data is asked");
        EventWaves x = Due.withNets(24);
        for (int g = 0; g < 32; g++) {
            x.gate(7, 0, 1, 2 + g % 22);
        }
        x.check(SET_UP, 1, 0, 3);
        x.drive(1, 5, 0);
        x.drive(0, 5, 1);
        x.drive(1, 15, 1);
        x.drive(1, 25, 0);
        due.is("each takes 1", x.run(30), 36);
        x.drive(0, 31, 0);
        x.drive(1, 32, 1);
        due.is("each takes UNKNOWN", x.run(40), 34);
        for (int n = 2; n < 24; n++) {
            due.is("net " + n, x.value(n), 2);
        }
    }

    private static void otherGatesAreNot(Due due) {
        due.says("each register with B the clock and A the data");
        EventWaves x = Due.withNets(8);
        x.gate(7, 2, 1, 3);
        x.gate(7, 1, 1, 4);
        x.gate(7, 2, 6, 5);
        x.gate(6, 2, 1, 7);
        x.check(SET_UP, 1, 2, 3);
        for (int clock : new int[] {1, 6}) {
            x.drive(clock, 5, 0);
            x.drive(clock, 12, 1);
        }
        x.drive(2, 10, 1);
        x.run(20);
        due.is("broken", x.broken(0), 1);
        due.is("its register", x.value(3), 2);
        due.is("a register of other data", x.value(4), 1);
        due.is("a register of another clock", x.value(5), 1);
        due.is("a latch", x.value(7), 1);
    }

    private static void behindAllOthers(Due due) {
        due.says("behind all others that are asked for that change");
        EventWaves x = registers(SET_UP, 3);
        x.delay(0, 9, 4);
        x.delay(1, 9, 4);
        x.drive(2, 210, 1);
        x.drive(2, 211, 0);
        x.drive(1, 212, 1);
        x.run(215);
        due.is("rule 0: not before its delay", x.value(3), 1);
        x.run(300);
        due.is("rule 0: UNKNOWN in place of 0", x.at(3, 216), 2);
        due.is("rule 0: and it stays", x.value(3), 2);
        EventWaves y = registers(SET_UP, 3);
        y.spike(1);
        y.delay(0, 4, 9);
        y.drive(2, 210, 1);
        y.drive(2, 211, 0);
        y.drive(1, 212, 1);
        y.run(220);
        due.is("rule 1: not before 0 was due", y.value(3), 1);
        due.is("rule 1: UNKNOWN when 0 was due", y.run(221), 1);
        due.is("rule 1: the value", y.value(3), 2);
        due.is("rule 1: nothing behind it", y.run(300), 0);
    }

    private static void severalChecks(Due due) {
        due.says("Then it is BROKEN");
        EventWaves x = Due.withNets(4);
        for (int i = 0; i < 20; i++) {
            x.check(i % 2, 1, 2, i);
        }
        x.drive(1, 5, 0);
        x.drive(2, 5, 0);
        x.drive(2, 2000, 1);
        x.drive(1, 2010, 1);
        x.drive(2, 2020, 0);
        x.run(3000);
        for (int i = 0; i < 20; i++) {
            due.is("check " + i, x.broken(i), i > 10 ? 1 : 0);
        }
    }

    /** The changes that are kept are full, yet nets change and checks look at them. */
    private static void beyondSixHundred(Due due) {
        due.says("the data took another value less than LIMIT before");
        EventWaves x = Due.withNets(6);
        x.gate(2, 0, 4, 5);
        x.gate(1, 5, 5, 4);
        x.drive(0, 10, 0);
        x.run(15);
        x.drive(0, 20, 1);
        for (int i = 0; i < 5; i++) {
            x.run(100000);
        }
        due.is("kept", x.change(0, 3), 600);
        x.check(SET_UP, 1, 2, 3);
        x.check(HOLD, 1, 2, 3);
        long now = x.now();
        x.drive(1, now + 1, 0);
        x.drive(2, now + 4, 1);
        x.drive(1, now + 6, 1);
        x.drive(2, now + 8, 0);
        x.run(now + 10);
        due.is("set-up", x.broken(0), 1);
        due.is("hold", x.broken(1), 1);
    }
}
