/** The sentences of "1 NETS AND GATES" and of promises 1 to 4, 14 and 20 that name a boundary, one test for each. */
public final class NetLimitsTest {
    private static final int[] NO_NUMBERS = {-1, Integer.MIN_VALUE, Integer.MAX_VALUE};

    /** Each kind's sentence, and what it gives: a row for each A, a column for each B. */
    private static final String[][] KINDS = {
        {"kind 0 A", "0000 1111 2222 2222"},
        {"1 NOT: the other one of A, UNKNOWN of UNKNOWN", "1111 0000 2222 2222"},
        {"2 AND: 0 if one is 0, 1 if both are 1, else UNKNOWN", "0000 0122 0222 0222"},
        {"3 OR: 1 if one is 1, 0 if both are 0, else UNKNOWN", "0122 1111 2122 2122"},
        {"4 XOR: UNKNOWN if one is, else whether they differ", "0122 1022 2222 2222"},
        {"5 GATED: A if B is 1, OPEN if B is 0, else UNKNOWN", "3022 3122 3222 3222"}
    };

    public static void main(String[] args) {
        Due due = new Due("NetLimitsTest");
        callsOfOneObject(due);
        newObject(due);
        nets(due);
        gates(due);
        noSuchNet(due);
        kindsOfGates(due);
        whatKindsGive(due);
        openCountsAsUnknown(due);
        latch(due);
        registerIsAskedAtARise(due);
        registerTakesA(due);
        whatAGateHasAtFirst(due);
        forcedGoesFirst(due);
        openIfAllIsOpen(due);
        whatAllAgreesOn(due);
        handAtFirst(due);
        followsFromItsFirst(due);
        secondNetOfKindsZeroAndOne(due);
        outOfANewGate(due);
        newGateIsAsked(due);
        delayLimits(due);
        delaysAtFirst(due);
        delaysAreOthers(due);
        whatWaitsKeepsItsDelay(due);
        noSuchGate(due);
        levels(due);
        due.end();
    }

    private static void callsOfOneObject(Due due) {
        due.says("An object is used for at most 512 calls after it has been made");
        EventWaves x = new EventWaves();
        x.net();
        for (int call = 1; call < 511; call += 2) {
            x.drive(0, call, call / 2 % 2);
            due.is("a run", x.run(call), 1);
        }
        due.is("call 512", x.counted(0), 255);
    }

    private static void newObject(Due due) {
        due.says("Nothing; time 0, rule 0.");
        due.is("now", new EventWaves().now(), 0);
        due.is("the rule is not 1", new EventWaves().spike(1), true);
        due.is("the rule is 0", new EventWaves().spike(0), false);
        due.is("no changes", new EventWaves().change(0, 3), 0);
        due.is("no gates", new EventWaves().levels(), 0);
        due.is("no tape", new EventWaves().read(), 0);
        due.is("no events", new EventWaves().run(1000000000L), 0);
        due.is("nothing remembered", new EventWaves().back(0), false);
        due.refuses("no nets", Due.INDEX, () -> new EventWaves().value(0));
        due.refuses("no gates", Due.INDEX, () -> new EventWaves().delay(0, 1, 1) ? 1 : 0);
        due.refuses("no checks", Due.INDEX, () -> new EventWaves().broken(0));
        due.refuses("no text", Due.INDEX, () -> new EventWaves().write(0));
    }

    private static void nets(Due due) {
        due.says("There are NETS 0 .. 23, UNKNOWN at first");
        EventWaves x = new EventWaves();
        for (int i = 0; i < 24; i++) {
            int n = i;
            due.refuses("net " + n + " before it is made", Due.INDEX, () -> x.value(n));
            due.is("a new net", x.net(), n);
            due.is("its value", x.value(n), 2);
            due.is("its value at time 0", x.at(n, 0), 2);
            due.is("its changes", x.counted(n), 0);
        }
        due.refuses("a net too many", Due.STATE, x::net);
        due.refuses("and once more", Due.STATE, x::net);
        due.is("the last net", x.value(23), 2);
        due.refuses("no net 24", Due.INDEX, () -> x.value(24));
    }

    private static void gates(Due due) {
        due.says("GATES 0 .. 31 of a KIND");
        EventWaves x = Due.withNets(2);
        for (int i = 0; i < 32; i++) {
            int g = i;
            due.refuses("gate " + g + " before it is made", Due.INDEX, () -> x.delay(g, 1, 1) ? 1 : 0);
            due.is("a new gate", x.gate(g % 8, 0, 0, 1), g);
            due.is("it is there", x.delay(g, 1, 1), false);
        }
        due.refuses("a gate too many", Due.STATE, () -> x.gate(0, 0, 0, 1));
        due.refuses("and once more", Due.STATE, () -> x.gate(7, 1, 1, 0));
        due.is("the last gate", x.delay(31, 1, 1), false);
        due.refuses("no gate 32", Due.INDEX, () -> x.delay(32, 1, 1) ? 1 : 0);
    }

    private static void noSuchNet(Due due) {
        due.says("IndexOutOfBoundsException: there is no such net, gate, check or change.");
        for (int count : new int[] {0, 1, 23, 24}) {
            noNetIsTaken(due, Due.withNets(count), count);
            for (int number : NO_NUMBERS) {
                noNetIsTaken(due, Due.withNets(count), number);
            }
        }
        for (int count : new int[] {1, 24}) {
            EventWaves x = Due.withNets(count);
            int last = count - 1;
            due.is("a gate of the last net", x.gate(2, last, last, last), 0);
            due.is("drive of the last net", x.drive(last, 0, 1), 1);
            due.is("force of the last net", x.force(last, 0, 0), 2);
            due.is("release of the last net", x.release(last, 1), 3);
            due.is("a check of the last net", x.check(0, last, last, 1), 0);
            x.run(0);
            due.is("value of the last net", x.value(last), 0);
            due.is("at of the last net", x.at(last, 0), 0);
            due.is("counted of the last net", x.counted(last), 1);
        }
    }

    private static void noNetIsTaken(Due due, EventWaves x, int number) {
        due.refuses("A of a gate", Due.INDEX, () -> x.gate(2, number, 0, 0));
        due.refuses("B of a gate", Due.INDEX, () -> x.gate(2, 0, number, 0));
        due.refuses("OUT of a gate", Due.INDEX, () -> x.gate(2, 0, 0, number));
        due.refuses("drive", Due.INDEX, () -> x.drive(number, 0, 1));
        due.refuses("force", Due.INDEX, () -> x.force(number, 0, 1));
        due.refuses("release", Due.INDEX, () -> x.release(number, 0));
        due.refuses("the clock of a check", Due.INDEX, () -> x.check(0, number, 0, 1));
        due.refuses("the data of a check", Due.INDEX, () -> x.check(0, 0, number, 1));
        due.refuses("at", Due.INDEX, () -> x.at(number, 0));
        due.refuses("value", Due.INDEX, () -> x.value(number));
        due.refuses("counted", Due.INDEX, () -> x.counted(number));
    }

    private static void kindsOfGates(Due due) {
        due.says("IllegalArgumentException: no such kind.");
        EventWaves x = Due.withNets(3);
        for (int kind : new int[] {-1, 8, Integer.MIN_VALUE, Integer.MAX_VALUE}) {
            due.refuses("kind " + kind, Due.ARGUMENT, () -> x.gate(kind, 0, 1, 2));
        }
        for (int kind = 0; kind < 8; kind++) {
            due.is("kind " + kind, x.gate(kind, 0, 1, 2), kind);
        }
    }

    /** OUT is net 2 after A, net 0, and B, net 1, are forced to values. */
    private static EventWaves forced(int kind, int a, int b) {
        EventWaves x = Due.withNets(3);
        x.gate(kind, 0, 1, 2);
        x.force(0, 5, a);
        x.force(1, 5, b);
        x.run(10);
        return x;
    }

    private static void whatKindsGive(Due due) {
        for (int kind = 0; kind < KINDS.length; kind++) {
            due.says(KINDS[kind][0]);
            for (int a = 0; a < 4; a++) {
                for (int b = 0; b < 4; b++) {
                    int want = KINDS[kind][1].charAt(5 * a + b) - '0';
                    due.is("of " + a + " and " + b, forced(kind, a, b).value(2), want);
                }
            }
        }
    }

    private static void openCountsAsUnknown(Due due) {
        due.says("(an OPEN net counts as UNKNOWN)");
        for (int kind = 0; kind < 7; kind++) {
            for (int v = 0; v < 4; v++) {
                int asA = forced(kind, 2, v).value(2);
                int asB = forced(kind, v, 2).value(2);
                due.is("A of kind " + kind + " with B " + v, forced(kind, 3, v).value(2), asA);
                due.is("B of kind " + kind + " with A " + v, forced(kind, v, 3).value(2), asB);
            }
        }
    }

    private static void latch(Due due) {
        due.says("6 a LATCH: A if B is 1; what it has if B is 0, or if that is A; else UNKNOWN");
        for (int has = 0; has < 3; has++) {
            for (int a = 0; a < 4; a++) {
                for (int b = 0; b < 4; b++) {
                    int seenA = a == 3 ? 2 : a;
                    int want = b == 1 ? seenA : b == 0 || has == seenA ? has : 2;
                    due.is("has " + has + ", A " + a + ", B " + b, latchThatHas(has, a, b), want);
                }
            }
        }
    }

    private static int latchThatHas(int has, int a, int b) {
        EventWaves x = forced(6, has, 1);
        x.force(1, 20, 0);
        x.force(0, 30, a);
        x.force(1, 40, b);
        x.run(50);
        return x.value(2);
    }

    private static void registerIsAskedAtARise(Due due) {
        due.says("7 a REGISTER, that is asked only when B becomes 1 and was 0");
        for (int from = 0; from < 4; from++) {
            for (int to = 0; to < 4; to++) {
                EventWaves x = forced(7, 1, from);
                x.force(1, 20, to);
                x.run(30);
                due.is("B from " + from + " to " + to, x.value(2), from == 0 && to == 1 ? 1 : 2);
            }
        }
        EventWaves y = forced(7, 1, 0);
        y.force(1, 20, 1);
        y.force(0, 30, 0);
        y.run(40);
        due.is("its A alone", y.value(2), 1);
        y.force(1, 50, 1);
        due.is("B that is 1 and takes 1", y.run(60), 1);
        due.is("what it has", y.value(2), 1);
    }

    private static void registerTakesA(Due due) {
        due.says("A (OPEN: UNKNOWN)");
        for (int before = 0; before < 2; before++) {
            for (int a = 0; a < 4; a++) {
                EventWaves x = forced(7, before, 0);
                x.force(1, 20, 1);
                x.force(1, 30, 0);
                x.force(0, 40, a);
                x.force(1, 50, 1);
                x.run(45);
                due.is("before", x.value(2), before);
                x.run(60);
                due.is("A " + a, x.value(2), a == 3 ? 2 : a);
            }
        }
    }

    private static void whatAGateHasAtFirst(Due due) {
        due.says("A gate HAS UNKNOWN at first (kind 5: OPEN).");
        for (int kind = 0; kind < 8; kind++) {
            EventWaves x = Due.withNets(4);
            x.drive(3, 2, 1);
            x.run(7);
            x.gate(kind, 0, 1, 2);
            due.is("a net with kind " + kind + " alone", x.value(2), kind == 5 ? 3 : 2);
            due.is("its changes", x.counted(2), kind == 5 ? 1 : 0);
            x.gate(kind, 0, 1, 3);
            due.is("a net with kind " + kind + " and 1 by hand", x.value(3), kind == 5 ? 1 : 2);
        }
    }

    private static void forcedGoesFirst(Due due) {
        due.says("A net's value is what it is FORCED to, if it is");
        for (int v = 0; v < 4; v++) {
            EventWaves x = forced(0, 1, 1);
            x.drive(2, 11, 1);
            x.force(2, 12, v);
            x.run(12);
            due.is("forced to " + v + " against a gate and the hand", x.value(2), v);
            x.force(0, 20, 0);
            x.drive(2, 30, 0);
            x.run(31);
            due.is("forced to " + v + " yet", x.value(2), v);
            x.force(2, 40, 3 - v);
            x.run(40);
            due.is("forced to another one", x.value(2), 3 - v);
            x.release(2, 41);
            x.run(41);
            due.is("no more forced", x.value(2), 0);
        }
    }

    private static void openIfAllIsOpen(Due due) {
        due.says("it is OPEN if all that drives it (its gates, by what they have, and the hand) is OPEN or there is none");
        EventWaves x = Due.withNets(1);
        x.drive(0, 1, 3);
        x.run(1);
        due.is("no gates, the hand OPEN", x.value(0), 3);
        x.drive(0, 2, 2);
        x.run(2);
        due.is("no gates, the hand UNKNOWN", x.value(0), 2);
        EventWaves y = Due.withNets(3);
        for (int i = 0; i < 32; i++) {
            y.gate(5, 0, 1, 2);
        }
        due.is("32 gates that are OPEN", y.value(2), 3);
        y.drive(1, 1, 0);
        y.run(3);
        due.is("and stay so", y.value(2), 3);
        y.delay(31, 0, 0);
        y.drive(0, 5, 1);
        y.drive(1, 5, 1);
        y.run(5);
        due.is("the last one is not", y.value(2), 1);
    }

    private static void whatAllAgreesOn(Due due) {
        due.says("else the value that all that is not OPEN agrees on, UNKNOWN if it does not");
        for (int hand = 0; hand < 4; hand++) {
            for (int one = 0; one < 4; one++) {
                for (int other = 0; other < 4; other++) {
                    int want = joined(joined(hand, one), other);
                    due.is("of " + hand + ", " + one + " and " + other, driven(hand, one, other), want);
                }
            }
        }
    }

    private static int joined(int v, int w) {
        return v == 3 || v == w ? w : w == 3 ? v : 2;
    }

    /** The value of net 4, which the hand and two GATED gates drive. */
    private static int driven(int hand, int one, int other) {
        EventWaves x = Due.withNets(5);
        x.gate(5, 0, 1, 4);
        x.gate(5, 2, 3, 4);
        x.force(0, 1, one);
        x.force(1, 1, one == 3 ? 0 : 1);
        x.force(2, 1, other);
        x.force(3, 1, other == 3 ? 0 : 1);
        x.drive(4, 1, hand);
        x.run(5);
        return x.value(4);
    }

    private static void handAtFirst(Due due) {
        due.says("THE HAND of a net is OPEN at first.");
        for (int v = 0; v < 4; v++) {
            EventWaves x = forced(5, v, v == 3 ? 0 : 1);
            due.is("a gate that gives " + v + " drives alone", x.value(2), v);
        }
        EventWaves y = Due.withNets(1);
        y.force(0, 1, 1);
        y.release(0, 2);
        y.run(2);
        due.is("the hand drives alone", y.value(0), 3);
    }

    private static void followsFromItsFirst(Due due) {
        due.says("(A net follows this from its first gate, hand event or force on; before that it is UNKNOWN.)");
        EventWaves x = Due.withNets(6);
        x.gate(0, 4, 4, 5);
        x.run(9);
        due.is("no event of its own, and A and B of a gate", x.value(4), 2);
        x.drive(0, 10, 3);
        x.force(1, 10, 3);
        x.release(2, 10);
        x.run(9);
        for (int n = 0; n < 5; n++) {
            due.is("before the event comes: net " + n, x.value(n), 2);
        }
        x.run(10);
        due.is("hand event", x.value(0), 3);
        due.is("force", x.value(1), 3);
        due.is("a release is a hand event, too", x.value(2), 3);
        x.gate(5, 4, 4, 3);
        due.is("gate", x.value(3), 3);
        due.is("none yet", x.value(4), 2);
        due.is("each is a change", x.change(0, 3), 4);
    }

    private static void secondNetOfKindsZeroAndOne(Due due) {
        due.says("(b is a net for kinds 0 and 1, too)");
        for (int kind = 0; kind < 2; kind++) {
            int k = kind;
            EventWaves x = Due.withNets(2);
            due.refuses("B just beyond, kind " + k, Due.INDEX, () -> x.gate(k, 0, 2, 1));
            due.refuses("B just below, kind " + k, Due.INDEX, () -> x.gate(k, 0, -1, 1));
            due.is("B a net, kind " + k, x.gate(k, 0, 1, 1), 0);
        }
    }

    private static void outOfANewGate(Due due) {
        due.says("Its OUT has it from now on (a change perhaps)");
        EventWaves x = Due.withNets(3);
        x.drive(0, 4, 1);
        x.drive(1, 4, 2);
        x.force(2, 4, 1);
        x.run(6);
        x.gate(2, 0, 0, 0);
        due.is("1 by hand and UNKNOWN", x.value(0), 2);
        due.is("a change", x.counted(0), 2);
        due.is("at its time", x.change(2, 0), 6);
        due.is("of its net", x.change(2, 1), 0);
        due.is("to its value", x.change(2, 2), 2);
        x.gate(2, 0, 0, 1);
        due.is("UNKNOWN by hand and UNKNOWN: no change", x.counted(1), 0);
        x.gate(2, 0, 0, 2);
        due.is("forced: no change", x.counted(2), 1);
        due.is("kept", x.change(0, 3), 3);
    }

    private static void newGateIsAsked(Due due) {
        due.says("then it is asked (but for a register)");
        int[] given = {1, 0, 1, 1, 0, 1, 1};
        for (int kind = 0; kind < 8; kind++) {
            EventWaves x = Due.withNets(3);
            x.drive(0, 0, 1);
            x.drive(1, 0, 0);
            x.drive(1, 0, 1);
            x.run(9);
            x.gate(kind, 0, 1, 2);
            due.is("events of kind " + kind + " before its delay", x.run(9), 0);
            due.is("events of kind " + kind, x.run(10), kind == 7 ? 0 : 1);
            due.is("what it has", x.value(2), kind == 7 ? 2 : given[kind]);
            EventWaves y = Due.withNets(3);
            y.gate(kind, 0, 1, 2);
            due.is("kind " + kind + " that gives UNKNOWN", y.run(9), kind == 5 ? 1 : 0);
        }
    }

    private static void delayLimits(Due due) {
        due.says("A gate has two DELAYS, 0 .. 1000");
        EventWaves x = Due.withNets(2);
        x.gate(0, 0, 0, 1);
        for (int wrong : new int[] {-1, 1001, Integer.MIN_VALUE, Integer.MAX_VALUE}) {
            due.refuses("rise " + wrong, Due.ARGUMENT, () -> x.delay(0, wrong, 5) ? 1 : 0);
            due.refuses("fall " + wrong, Due.ARGUMENT, () -> x.delay(0, 5, wrong) ? 1 : 0);
            due.refuses("both " + wrong, Due.ARGUMENT, () -> x.delay(0, wrong, wrong) ? 1 : 0);
        }
        due.is("they are as they were", x.delay(0, 1, 1), false);
        due.is("rise 0, fall 1000", x.delay(0, 0, 1000), true);
        x.drive(0, 10, 1);
        x.drive(0, 20, 0);
        x.run(10);
        due.is("1 at once", x.value(1), 1);
        x.run(1019);
        due.is("0 not yet", x.value(1), 1);
        x.run(1020);
        due.is("0", x.value(1), 0);
        due.is("rise 1000, fall 0", x.delay(0, 1000, 0), true);
        x.drive(0, 2000, 1);
        x.drive(0, 3000, 0);
        x.drive(0, 3001, 1);
        x.run(3000);
        due.is("the hand's 0 goes before 1, which vanishes", x.value(1), 0);
        x.run(4000);
        due.is("1 not yet", x.value(1), 0);
        x.run(4001);
        due.is("1", x.value(1), 1);
    }

    private static void delaysAtFirst(Due due) {
        due.says("(1 at first)");
        for (int kind = 0; kind < 8; kind++) {
            EventWaves x = Due.withNets(2);
            x.gate(kind, 0, 0, 1);
            due.is("delays of kind " + kind, x.delay(0, 1, 1), false);
        }
    }

    private static void delaysAreOthers(Due due) {
        due.says("whether they are others");
        EventWaves x = Due.withNets(2);
        x.gate(0, 0, 0, 1);
        x.gate(0, 0, 0, 1);
        due.is("rise alone", x.delay(0, 2, 1), true);
        due.is("fall alone", x.delay(0, 2, 3), true);
        due.is("neither", x.delay(0, 2, 3), false);
        due.is("the one for the other", x.delay(0, 3, 2), true);
        due.is("those of another gate", x.delay(1, 1, 1), false);
    }

    private static void whatWaitsKeepsItsDelay(Due due) {
        due.says("A gate's delays from now on (what waits is not changed)");
        EventWaves x = Due.withNets(2);
        x.gate(0, 0, 0, 1);
        x.delay(0, 10, 10);
        x.spike(1);
        x.drive(0, 100, 1);
        x.run(100);
        x.delay(0, 1, 1);
        due.is("not sooner", x.run(109), 0);
        due.is("when it was to be", x.run(110), 1);
        x.delay(0, 10, 10);
        x.drive(0, 200, 0);
        x.drive(0, 202, 1);
        x.run(202);
        x.delay(0, 500, 500);
        due.is("not later", x.run(210), 1);
        due.is("what is behind: not sooner", x.run(211), 0);
        due.is("what is behind: not later", x.run(212), 1);
        due.is("it", x.value(1), 1);
    }

    private static void noSuchGate(Due due) {
        due.says("IndexOutOfBoundsException: there is no such net, gate, check or change.");
        for (int count : new int[] {0, 1, 31, 32}) {
            EventWaves x = Due.withNets(1);
            for (int i = 0; i < count; i++) {
                x.gate(0, 0, 0, 0);
            }
            due.refuses("gate " + count, Due.INDEX, () -> x.delay(count, 1, 1) ? 1 : 0);
            for (int number : NO_NUMBERS) {
                due.refuses("gate " + number, Due.INDEX, () -> x.delay(number, 1, 1) ? 1 : 0);
            }
            if (count > 0) {
                due.is("the last gate", x.delay(count - 1, 2, 1), true);
            }
        }
    }

    private static void levels(Due due) {
        due.says("How many gates of kinds 0 to 4 have another value than they give by the nets now.");
        for (int kind = 0; kind < 8; kind++) {
            EventWaves x = Due.withNets(3);
            x.drive(0, 0, 1);
            x.drive(1, 0, 1);
            x.run(5);
            due.is("no gates", x.levels(), 0);
            x.gate(kind, 0, 1, 2);
            due.is("kind " + kind + " before its delay", x.levels(), kind < 5 ? 1 : 0);
            x.run(6);
            due.is("kind " + kind + " after its delay", x.levels(), 0);
        }
        EventWaves y = Due.withNets(3);
        y.drive(0, 0, 1);
        y.run(0);
        for (int g = 0; g < 32; g++) {
            y.gate(1, 0, 0, 1);
            due.is("gates that have not what they give", y.levels(), g + 1);
        }
        y.force(1, 1, 2);
        y.run(1);
        due.is("a force of OUT is not what a gate has", y.levels(), 0);
    }
}
