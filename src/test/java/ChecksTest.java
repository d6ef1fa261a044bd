/** Checks: promises 9 check and 10 broken. */
public final class ChecksTest {
    private static final int SET_UP = 0;
    private static final int HOLD = 1;

    public static void main(String[] args) {
        Due due = new Due("ChecksTest");
        numbersAndRefusals(due);
        setUp(due);
        setUpAsksForUnknown(due);
        hold(due);
        sameTimeDataFirst(due);
        sameTimeClockFirst(due);
        clockIsData(due);
        onlyRisesFromZero(due);
        changesBeforeTheCheck(due);
        changeOfNewGate(due);
        onlyItsRegisters(due);
        blurredRegister(due);
        due.end();
    }

    private static void numbersAndRefusals(Due due) {
        EventWaves x = Due.withNets(2);
        due.refuses("clock is no net", Due.INDEX, () -> x.check(0, 2, 0, 1));
        due.refuses("data is no net", Due.INDEX, () -> x.check(0, 0, -1, 1));
        due.refuses("no net goes before no kind", Due.INDEX, () -> x.check(2, 0, 2, 1));
        due.refuses("kind 2", Due.ARGUMENT, () -> x.check(2, 0, 0, 1));
        due.refuses("kind -1", Due.ARGUMENT, () -> x.check(-1, 0, 0, 1));
        due.refuses("limit -1", Due.ARGUMENT, () -> x.check(0, 0, 0, -1));
        due.refuses("limit 1001", Due.ARGUMENT, () -> x.check(1, 0, 0, 1001));
        for (int i = 0; i < 20; i++) {
            due.is("check", x.check(i % 2, 0, 1, i % 3 == 0 ? 1000 : 0), i);
            due.is("broken of a new one", x.broken(i), 0);
        }
        due.refuses("check 20", Due.STATE, () -> x.check(0, 0, 0, 1));
        due.refuses("too many goes before no kind", Due.STATE, () -> x.check(2, 0, 0, 1));
        due.refuses("no net goes before too many", Due.INDEX, () -> x.check(0, 0, 2, 1));
        due.refuses("broken(20)", Due.INDEX, () -> x.broken(20));
        due.refuses("broken(-1)", Due.INDEX, () -> x.broken(-1));
    }

    /** Net 0 is the data, net 1 the clock, both 0 from time 5 on, net 2 the register's. */
    private static EventWaves register(int kind, int limit) {
        EventWaves x = Due.withNets(3);
        x.gate(7, 0, 1, 2);
        x.check(kind, 1, 0, limit);
        x.drive(0, 5, 0);
        x.drive(1, 5, 0);
        x.run(2000);
        return x;
    }

    private static void setUp(Due due) {
        EventWaves x = register(SET_UP, 3);
        x.drive(0, 2010, 1);
        x.drive(1, 2013, 1);
        x.run(2020);
        due.is("LIMIT before is not less", x.broken(0), 0);
        due.is("the register has the data", x.value(2), 1);
        x.drive(1, 2020, 0);
        x.drive(0, 2030, 0);
        x.drive(1, 2032, 1);
        x.run(2032);
        due.is("less than LIMIT before", x.broken(0), 1);
        x.drive(0, 2033, 1);
        x.run(2040);
        due.is("data behind the clock does not break it", x.broken(0), 1);
        x.drive(1, 2041, 0);
        x.drive(0, 2042, 2);
        x.drive(1, 2043, 1);
        x.run(2050);
        due.is("data that goes UNKNOWN", x.broken(0), 2);
    }

    private static void setUpAsksForUnknown(Due due) {
        EventWaves x = register(SET_UP, 3);
        x.drive(1, 2010, 1);
        x.drive(1, 2015, 0);
        x.run(2015);
        due.is("the register has 0", x.value(2), 0);
        x.drive(0, 2020, 1);
        x.drive(1, 2021, 1);
        due.is("one event of the register, as UNKNOWN", x.run(2030), 3);
        due.is("it has UNKNOWN", x.at(2, 2022), 2);
        due.is("and stays so", x.value(2), 2);
    }

    private static void hold(Due due) {
        EventWaves x = register(HOLD, 4);
        x.drive(1, 2010, 1);
        x.drive(0, 2014, 1);
        x.run(2020);
        due.is("LIMIT before is not less", x.broken(0), 0);
        due.is("the register has the data", x.value(2), 0);
        x.drive(1, 2020, 0);
        x.drive(1, 2030, 1);
        x.drive(0, 2033, 0);
        x.run(2033);
        due.is("less than LIMIT before", x.broken(0), 1);
        due.is("the register has the data first", x.at(2, 2033), 1);
        x.run(2040);
        due.is("then UNKNOWN", x.at(2, 2034), 2);
        x.drive(1, 2041, 0);
        x.drive(1, 2042, 1);
        x.drive(1, 2043, 0);
        x.drive(0, 2044, 1);
        x.drive(0, 2045, 0);
        x.drive(0, 2046, 1);
        x.run(2050);
        due.is("each change within it, also when the clock is 0 again", x.broken(0), 3);
    }

    private static void sameTimeDataFirst(Due due) {
        EventWaves x = register(SET_UP, 0);
        x.check(SET_UP, 1, 0, 1);
        x.check(HOLD, 1, 0, 1000);
        x.drive(0, 2010, 1);
        x.drive(1, 2010, 1);
        x.run(2020);
        due.is("0 before is not less than 0", x.broken(0), 0);
        due.is("0 before is less than 1", x.broken(1), 1);
        due.is("the data did not change behind the clock", x.broken(2), 0);
    }

    private static void sameTimeClockFirst(Due due) {
        EventWaves x = Due.withNets(2);
        x.check(SET_UP, 0, 1, 1000);
        x.check(HOLD, 0, 1, 0);
        x.check(HOLD, 0, 1, 1);
        x.drive(0, 5, 0);
        x.drive(1, 5, 0);
        x.run(2000);
        x.drive(1, 2010, 1);
        x.drive(0, 2010, 1);
        x.run(2020);
        due.is("the data changed behind the clock", x.broken(0), 0);
        due.is("0 before is not less than 0", x.broken(1), 0);
        due.is("0 before is less than 1", x.broken(2), 1);
    }

    private static void clockIsData(Due due) {
        EventWaves x = Due.withNets(1);
        x.check(SET_UP, 0, 0, 5);
        x.check(HOLD, 0, 0, 5);
        x.drive(0, 10, 0);
        x.drive(0, 15, 1);
        x.run(15);
        due.is("the rise itself is no earlier change", x.broken(0), 0);
        due.is("nor an earlier rise", x.broken(1), 0);
        x.drive(0, 18, 0);
        x.run(18);
        due.is("the change to 0 after the rise", x.broken(1), 1);
        x.drive(0, 19, 1);
        x.run(19);
        due.is("the rise after the change to 0", x.broken(0), 1);
        due.is("which is a change after a rise, too", x.broken(1), 2);
    }

    private static void onlyRisesFromZero(Due due) {
        EventWaves x = Due.withNets(2);
        x.check(SET_UP, 0, 1, 1000);
        x.check(HOLD, 0, 1, 1000);
        x.drive(1, 1, 1);
        x.drive(0, 2, 1);
        x.drive(1, 3, 0);
        x.drive(0, 4, 3);
        x.drive(0, 5, 1);
        x.drive(1, 6, 1);
        x.run(10);
        due.is("from UNKNOWN and OPEN", x.broken(0), 0);
        due.is("from UNKNOWN and OPEN", x.broken(1), 0);
    }

    private static void changesBeforeTheCheck(Due due) {
        EventWaves x = Due.withNets(2);
        x.drive(0, 1, 0);
        x.drive(1, 2, 0);
        x.run(3);
        x.check(SET_UP, 0, 1, 10);
        x.drive(0, 4, 1);
        x.run(5);
        due.is("the data changed before the check was made", x.broken(0), 1);
        x.check(HOLD, 0, 1, 10);
        x.drive(1, 6, 1);
        x.run(7);
        due.is("the clock rose before the check was made", x.broken(1), 1);
    }

    private static void changeOfNewGate(Due due) {
        EventWaves x = register(HOLD, 10);
        x.drive(1, 2010, 1);
        x.run(2012);
        due.is("the register has 0", x.value(2), 0);
        x.gate(0, 2, 2, 0);
        due.is("a new gate changes the data", x.value(0), 2);
        due.is("and breaks the check", x.broken(0), 1);
        x.run(2013);
        due.is("the register has UNKNOWN", x.value(2), 2);
    }

    private static void onlyItsRegisters(Due due) {
        EventWaves x = Due.withNets(7);
        x.gate(7, 0, 1, 2);
        x.gate(7, 0, 1, 3);
        x.gate(7, 1, 1, 4);
        x.gate(7, 0, 6, 5);
        x.check(SET_UP, 1, 0, 3);
        x.drive(0, 10, 1);
        x.drive(1, 10, 0);
        x.drive(6, 10, 0);
        x.drive(1, 20, 1);
        x.drive(6, 20, 1);
        x.run(30);
        for (int net = 2; net < 6; net++) {
            due.is("net " + net, x.value(net), 1);
        }
        x.drive(1, 30, 0);
        x.drive(6, 30, 0);
        x.drive(0, 40, 0);
        x.drive(1, 41, 1);
        x.drive(6, 41, 1);
        x.run(50);
        due.is("its first register", x.value(2), 2);
        due.is("its second register", x.value(3), 2);
        due.is("a register of other data", x.value(4), 1);
        due.is("a register of another clock", x.value(5), 0);
        EventWaves y = Due.withNets(3);
        y.gate(6, 0, 1, 2);
        y.check(SET_UP, 1, 0, 3);
        y.drive(0, 10, 1);
        y.drive(1, 10, 0);
        y.drive(1, 11, 1);
        y.run(20);
        due.is("the check of a latch is broken", y.broken(0), 1);
        due.is("but a latch is not asked for UNKNOWN", y.value(2), 1);
    }

    private static void blurredRegister(Due due) {
        EventWaves x = register(SET_UP, 3);
        x.delay(0, 8, 6);
        x.drive(1, 2010, 1);
        x.drive(1, 2020, 0);
        x.run(2020);
        due.is("the register has 0", x.value(2), 0);
        x.spike(1);
        x.drive(0, 2029, 1);
        x.drive(1, 2030, 1);
        x.run(2100);
        due.is("by rule 1 UNKNOWN comes when 1 was due", x.at(2, 2037), 0);
        due.is("by rule 1 UNKNOWN comes when 1 was due", x.at(2, 2038), 2);
        EventWaves y = register(SET_UP, 3);
        y.delay(0, 8, 6);
        y.drive(1, 2010, 1);
        y.drive(1, 2020, 0);
        y.drive(0, 2029, 1);
        y.drive(1, 2030, 1);
        y.run(2100);
        due.is("by rule 0 after its own delay", y.at(2, 2035), 0);
        due.is("by rule 0 after its own delay", y.at(2, 2036), 2);
    }
}
