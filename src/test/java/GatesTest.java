/** Nets and gates: promises 2 net, 3 gate, 4 delay, 14 value and 20 levels. */
public final class GatesTest {
    /** What kinds 0 to 6 give, a row for each A, a column for each B; the latch has UNKNOWN. */
    private static final String[] GIVEN = {
        "0000 1111 2222 2222",
        "1111 0000 2222 2222",
        "0000 0122 0222 0222",
        "0122 1111 2122 2122",
        "0122 1022 2222 2222",
        "3022 3122 3222 3222",
        "2022 2122 2222 2222"
    };

    public static void main(String[] args) {
        Due due = new Due("GatesTest");
        nets(due);
        gateRefusals(due);
        whatGatesGive(due);
        latch(due);
        register(due);
        outOfNewGate(due);
        newGateHearsItself(due);
        manyDrivers(due);
        delays(due);
        delayRefusals(due);
        bothNetsAreHeard(due);
        levels(due);
        due.end();
    }

    private static void nets(Due due) {
        EventWaves x = new EventWaves();
        for (int i = 0; i < 24; i++) {
            due.is("net", x.net(), i);
            due.is("value of a new net", x.value(i), 2);
            due.is("changes of a new net", x.counted(i), 0);
        }
        due.refuses("net 24", Due.STATE, x::net);
        due.refuses("net 24 again", Due.STATE, x::net);
        due.refuses("value(24)", Due.INDEX, () -> x.value(24));
        due.refuses("value(-1)", Due.INDEX, () -> x.value(-1));
    }

    private static void gateRefusals(Due due) {
        EventWaves x = Due.withNets(2);
        due.refuses("a is no net", Due.INDEX, () -> x.gate(2, 2, 0, 0));
        due.refuses("b is no net", Due.INDEX, () -> x.gate(2, 0, -1, 0));
        due.refuses("b is no net for kind 1", Due.INDEX, () -> x.gate(1, 0, 2, 0));
        due.refuses("out is no net", Due.INDEX, () -> x.gate(2, 0, 0, 2));
        due.refuses("no net goes before no kind", Due.INDEX, () -> x.gate(8, 0, 0, 2));
        due.refuses("kind 8", Due.ARGUMENT, () -> x.gate(8, 0, 0, 0));
        due.refuses("kind -1", Due.ARGUMENT, () -> x.gate(-1, 0, 0, 0));
        for (int i = 0; i < 32; i++) {
            due.is("gate", x.gate(i % 8, 0, 0, 1), i);
        }
        due.refuses("gate 32", Due.STATE, () -> x.gate(0, 0, 0, 1));
        due.refuses("too many goes before no kind", Due.STATE, () -> x.gate(8, 0, 0, 1));
        due.refuses("no net goes before too many", Due.INDEX, () -> x.gate(0, 0, 2, 1));
    }

    private static void whatGatesGive(Due due) {
        for (int kind = 0; kind < GIVEN.length; kind++) {
            for (int a = 0; a < 4; a++) {
                for (int b = 0; b < 4; b++) {
                    EventWaves x = Due.withNets(3);
                    x.gate(kind, 0, 1, 2);
                    x.force(0, 5, a);
                    x.force(1, 5, b);
                    x.run(10);
                    due.is("kind " + kind + " of " + a + " and " + b, x.value(2), GIVEN[kind].charAt(5 * a + b) - '0');
                }
            }
        }
    }

    private static void latch(Due due) {
        EventWaves x = Due.withNets(3);
        x.gate(6, 0, 1, 2);
        x.drive(0, 1, 1);
        x.drive(1, 1, 1);
        x.run(5);
        due.is("an open latch", x.value(2), 1);
        x.drive(1, 6, 2);
        x.run(10);
        due.is("a latch with UNKNOWN B that has A", x.value(2), 1);
        x.drive(1, 11, 0);
        x.drive(0, 12, 0);
        x.run(15);
        due.is("a closed latch", x.value(2), 1);
        x.drive(1, 16, 3);
        x.run(20);
        due.is("a latch with OPEN B that has not A", x.value(2), 2);
    }

    private static void register(Due due) {
        EventWaves x = Due.withNets(3);
        x.gate(7, 0, 1, 2);
        x.drive(0, 1, 1);
        x.drive(1, 1, 1);
        x.run(5);
        due.is("a clock that becomes 1 from UNKNOWN", x.value(2), 2);
        x.drive(1, 6, 0);
        x.run(8);
        due.is("a clock that becomes 0", x.value(2), 2);
        x.drive(1, 9, 1);
        x.run(10);
        due.is("a clock that becomes 1 from 0", x.value(2), 1);
        x.drive(0, 11, 0);
        x.run(15);
        due.is("a register whose A changes", x.value(2), 1);
        x.drive(1, 16, 0);
        x.drive(1, 17, 3);
        x.drive(1, 18, 1);
        x.run(20);
        due.is("a clock that becomes 1 from OPEN", x.value(2), 1);
        x.drive(0, 21, 3);
        x.drive(1, 21, 0);
        x.drive(1, 22, 1);
        x.run(30);
        due.is("a register of an OPEN net", x.value(2), 2);
    }

    private static void outOfNewGate(Due due) {
        EventWaves x = Due.withNets(3);
        x.drive(0, 4, 1);
        x.drive(2, 4, 1);
        x.run(7);
        x.gate(0, 0, 0, 1);
        due.is("OUT of a new gate", x.value(1), 2);
        due.is("it has UNKNOWN already, so no change", x.counted(1), 0);
        x.gate(5, 0, 0, 2);
        due.is("a new GATED gate is OPEN", x.value(2), 1);
        x.gate(0, 0, 0, 2);
        due.is("a new gate and the hand do not agree", x.value(2), 2);
        due.is("the change of a new gate is kept", x.change(2, 0), 7);
        due.is("its net", x.change(2, 1), 2);
        due.is("its value", x.change(2, 2), 2);
        due.is("a new gate is asked", x.run(8), 3);
        due.is("and has what it gives", x.value(2), 1);
        EventWaves y = Due.withNets(2);
        y.gate(5, 0, 0, 1);
        due.is("a net follows its first gate", y.value(1), 3);
        due.is("as a change", y.counted(1), 1);
        EventWaves z = Due.withNets(3);
        z.drive(1, 0, 0);
        z.drive(1, 0, 1);
        z.drive(0, 0, 1);
        z.run(1);
        z.gate(7, 0, 1, 2);
        due.is("a new register is not asked", z.run(10), 0);
    }

    private static void newGateHearsItself(Due due) {
        EventWaves x = Due.withNets(1);
        x.gate(5, 0, 0, 0);
        due.is("OUT is A and B", x.value(0), 3);
        due.is("it is asked", x.run(1), 1);
        due.is("and gives UNKNOWN", x.value(0), 2);
    }

    private static void manyDrivers(Due due) {
        EventWaves x = Due.withNets(4);
        x.gate(5, 0, 1, 2);
        x.gate(5, 0, 3, 2);
        x.drive(0, 1, 1);
        x.drive(1, 1, 0);
        x.drive(3, 1, 0);
        x.run(5);
        due.is("all OPEN", x.value(2), 3);
        x.drive(1, 6, 1);
        x.run(10);
        due.is("one of them drives", x.value(2), 1);
        x.drive(2, 11, 1);
        x.run(12);
        due.is("the hand agrees", x.value(2), 1);
        x.drive(2, 13, 0);
        x.run(14);
        due.is("the hand does not agree", x.value(2), 2);
        x.drive(3, 15, 1);
        x.run(20);
        due.is("the greater part agrees", x.value(2), 2);
        x.drive(2, 21, 3);
        x.run(22);
        due.is("the hand is OPEN", x.value(2), 1);
    }

    private static void delays(Due due) {
        EventWaves x = Due.withNets(3);
        x.gate(0, 0, 0, 1);
        due.is("the delays are 1 at first", x.delay(0, 1, 1), false);
        due.is("another rise", x.delay(0, 7, 1), true);
        due.is("another fall", x.delay(0, 7, 4), true);
        due.is("the same delays", x.delay(0, 7, 4), false);
        x.drive(0, 10, 0);
        x.drive(0, 30, 1);
        x.drive(0, 50, 3);
        x.run(100);
        due.is("before the fall", x.at(1, 13), 2);
        due.is("the fall", x.at(1, 14), 0);
        due.is("before the rise", x.at(1, 36), 0);
        due.is("the rise", x.at(1, 37), 1);
        due.is("before UNKNOWN", x.at(1, 53), 1);
        due.is("UNKNOWN, the lesser one", x.at(1, 54), 2);
        EventWaves y = Due.withNets(3);
        y.gate(5, 0, 1, 2);
        y.delay(0, 3, 8);
        y.drive(0, 5, 1);
        y.drive(1, 5, 1);
        y.run(20);
        y.drive(1, 20, 0);
        y.run(27);
        due.is("before OPEN", y.value(2), 1);
        y.delay(0, 1000, 0);
        y.run(28);
        due.is("OPEN, the greater one; what waits is not changed", y.value(2), 3);
    }

    private static void delayRefusals(Due due) {
        EventWaves x = Due.withNets(1);
        x.gate(0, 0, 0, 0);
        due.refuses("gate -1", Due.INDEX, () -> x.delay(-1, 1, 1) ? 1 : 0);
        due.refuses("no gate goes before no delay", Due.INDEX, () -> x.delay(1, -1, 1) ? 1 : 0);
        due.refuses("rise -1", Due.ARGUMENT, () -> x.delay(0, -1, 1) ? 1 : 0);
        due.refuses("fall -1", Due.ARGUMENT, () -> x.delay(0, 1, -1) ? 1 : 0);
        due.refuses("rise 1001", Due.ARGUMENT, () -> x.delay(0, 1001, 1) ? 1 : 0);
        due.refuses("fall 1001", Due.ARGUMENT, () -> x.delay(0, 5, 1001) ? 1 : 0);
        due.is("a refused call changes nothing", x.delay(0, 1, 1), false);
        due.is("the edges", x.delay(0, 0, 1000), true);
    }

    /** Kind 0 is asked for its B too: what is to come behind is put off then. */
    private static void bothNetsAreHeard(Due due) {
        EventWaves x = Due.withNets(3);
        x.gate(0, 0, 1, 2);
        x.delay(0, 10, 10);
        x.spike(1);
        x.drive(0, 5, 0);
        x.run(20);
        x.drive(0, 20, 1);
        x.drive(0, 22, 0);
        x.drive(1, 25, 1);
        x.run(50);
        due.is("UNKNOWN till the later time", x.at(2, 34), 2);
        due.is("then what it gives", x.at(2, 35), 0);
    }

    private static void levels(Due due) {
        EventWaves x = Due.withNets(4);
        for (int kind = 0; kind < 7; kind++) {
            x.gate(kind, 0, 1, 2);
        }
        x.gate(7, 0, 1, 2);
        due.is("all have what they give; kind 5 does not count", x.levels(), 0);
        x.drive(0, 5, 1);
        x.drive(1, 5, 1);
        x.run(5);
        due.is("kinds 0 to 4", x.levels(), 5);
        x.run(6);
        due.is("after their delays", x.levels(), 0);
        x.drive(0, 7, 0);
        x.run(7);
        due.is("kinds 0, 1, 2 and 4", x.levels(), 4);
    }
}
