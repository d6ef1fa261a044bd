/** The sentences of "2 EVENTS" and of promises 5 to 8, 11 and 12 that name a boundary, one test for each. */
public final class EventLimitsTest {
    private static final long LAST = 1000000000L;

    public static void main(String[] args) {
        Due due = new Due("EventLimitsTest");
        timeAtFirst(due);
        delayToEachValue(due);
        askedForAnotherValue(due);
        askedForTheSecondNet(due);
        nothingWaits(due);
        sameValueWaits(due);
        sameValueWaitsWithOneBehind(due);
        ruleZero(due);
        ruleZeroToWhatItHas(due);
        ruleZeroTakesWhatIsBehind(due);
        ruleOne(due);
        ruleOneWithOneBehind(due);
        ruleOneToUnknown(due);
        whatWasBehindWaitsThen(due);
        rulesThereAre(due);
        ruleIsAnother(due);
        notBeforeNow(due);
        notBeyondTheLastTime(due);
        valuesThereAre(due);
        hundredWait(due);
        howManyWait(due);
        forcedNoMore(due);
        orderOfTimes(due);
        orderOfNets(due);
        handsBeforeGates(due);
        gatesByNumbers(due);
        sixtyGateEvents(due);
        sixtyAtEachTime(due);
        loopIsOfANet(due);
        loopWaitsYet(due);
        handEventsAreNoLoop(due);
        upToATimeItselfToo(due);
        hundredFifty(due);
        hundredFiftyOfOneTime(due);
        hundredFiftyBeforeALoop(due);
        untilLimits(due);
        eventsBeyondTheLastTime(due);
        changesOfANewGate(due);
        sixHundred(due);
        due.end();
    }

    private static void timeAtFirst(Due due) {
        due.says("TIME begins with 0.");
        EventWaves x = Due.withNets(1);
        due.is("now", x.now(), 0);
        due.is("an event at 0", x.drive(0, 0, 1), 1);
        due.refuses("an event before 0", Due.ARGUMENT, () -> x.drive(0, -1, 1));
        due.is("a run to 0", x.run(0), 1);
        due.is("its time", x.change(0, 0), 0);
        due.is("now yet", x.now(), 0);
    }

    /** A GATED gate of nets 0 and 1 that drives net 2 to v from time 100 on; rise and fall count from there. */
    private static EventWaves gated(int before, int v, int rise, int fall) {
        EventWaves x = Due.withNets(3);
        x.gate(5, 0, 1, 2);
        x.force(0, 10, before == 3 ? 0 : before);
        x.force(1, 10, before == 3 ? 0 : 1);
        x.run(50);
        x.delay(0, rise, fall);
        x.force(0, 100, v == 3 ? 0 : v);
        x.force(1, 100, v == 3 ? 0 : 1);
        return x;
    }

    private static void delayToEachValue(Due due) {
        due.says("RISE, to 1, and FALL, to 0; to UNKNOWN it is the lesser one, to OPEN the greater one.");
        int[][] delays = {{2, 5}, {5, 2}, {4, 4}, {0, 3}, {3, 0}, {0, 0}, {0, 1000}, {1000, 999}};
        for (int[] d : delays) {
            int[] want = {d[1], d[0], Math.min(d[0], d[1]), Math.max(d[0], d[1])};
            for (int v = 0; v < 4; v++) {
                int before = (v + 1) % 4;
                EventWaves x = gated(before, v, d[0], d[1]);
                x.run(2000);
                String what = "to " + v + " with " + d[0] + " and " + d[1];
                due.is(what + ", just before", x.at(2, 100 + want[v] - 1), before);
                due.is(what, x.at(2, 100 + want[v]), v);
            }
        }
    }

    /** Net 1 follows net 0; both are 0 at time 100, and the delays are as told from there on. */
    private static EventWaves buffer(int rule, int rise, int fall) {
        EventWaves x = Due.withNets(2);
        x.gate(0, 0, 0, 1);
        x.drive(0, 5, 0);
        x.run(100);
        x.delay(0, rise, fall);
        x.spike(rule);
        return x;
    }

    private static void askedForAnotherValue(Due due) {
        due.says("When a net that is a gate's A or B takes another value at a time t, the gate is asked at once");
        EventWaves x = Due.withNets(4);
        x.gate(4, 0, 1, 2);
        x.drive(0, 5, 0);
        x.drive(1, 5, 0);
        x.drive(3, 5, 0);
        x.run(10);
        x.drive(0, 20, 1);
        due.is("A", x.run(30), 2);
        x.drive(1, 40, 1);
        due.is("B", x.run(50), 2);
        x.drive(3, 60, 1);
        due.is("neither", x.run(70), 1);
        EventWaves y = buffer(1, 10, 10);
        y.drive(0, 110, 1);
        y.drive(0, 112, 0);
        y.drive(0, 115, 0);
        y.run(200);
        due.is("the same value again does not ask: before", y.at(1, 121), 2);
        due.is("the same value again does not ask", y.at(1, 122), 0);
    }

    /** Kinds 0 and 1 give the same as before then; by rule 1 what is behind counts from the later time. */
    private static void askedForTheSecondNet(Due due) {
        due.says("When a net that is a gate's A or B takes another value at a time t, the gate is asked at once");
        for (int kind = 0; kind < 2; kind++) {
            EventWaves x = Due.withNets(3);
            x.gate(kind, 0, 1, 2);
            x.delay(0, 10, 10);
            x.spike(1);
            x.drive(0, 20, 1);
            x.drive(0, 22, 0);
            x.drive(1, 25, 1);
            x.run(50);
            due.is("kind " + kind + ", before", x.at(2, 34), 2);
            due.is("kind " + kind, x.at(2, 35), kind);
        }
    }

    private static void nothingWaits(Due due) {
        due.says("It has nothing WAITING: if v is not what it has, v waits, till t and its delay to v.");
        EventWaves x = buffer(0, 7, 7);
        x.drive(0, 110, 1);
        due.is("the hand alone", x.run(116), 1);
        due.is("it waits till 117", x.run(117), 1);
        EventWaves y = Due.withNets(3);
        y.gate(2, 0, 1, 2);
        y.drive(0, 10, 0);
        y.run(20);
        y.drive(1, 30, 1);
        due.is("v is what it has", y.run(40), 1);
        due.is("AND of 0 and 1", y.value(2), 0);
    }

    /** An OR of nets 0 and 1 that has 0 and is asked at 110 and, with the same answer, at 115. */
    private static void sameValueWaits(Due due) {
        due.says("Something waits, w till time u: if v is w, nothing is to come behind it any more.");
        for (int rule = 0; rule < 2; rule++) {
            EventWaves x = Due.withNets(3);
            x.gate(3, 0, 1, 2);
            x.drive(0, 5, 0);
            x.drive(1, 5, 0);
            x.run(100);
            x.delay(0, 10, 10);
            x.spike(rule);
            x.drive(0, 110, 1);
            x.drive(1, 115, 1);
            due.is("rule " + rule + ": not before u", x.run(119), 2);
            due.is("rule " + rule + ": at u", x.run(120), 1);
            due.is("rule " + rule + ": once", x.run(300), 0);
            due.is("rule " + rule + ": it", x.value(2), 1);
        }
    }

    private static void sameValueWaitsWithOneBehind(Due due) {
        due.says("if v is w, nothing is to come behind it any more");
        EventWaves x = buffer(1, 10, 10);
        x.drive(0, 110, 1);
        x.drive(0, 112, 0);
        x.drive(0, 115, 2);
        due.is("three hand events and UNKNOWN", x.run(300), 4);
        due.is("UNKNOWN from u on", x.at(1, 120), 2);
        due.is("and no 0", x.value(1), 2);
        EventWaves y = buffer(1, 10, 10);
        y.drive(0, 110, 1);
        y.drive(0, 112, 0);
        y.run(113);
        y.spike(0);
        y.drive(0, 115, 2);
        due.is("by rule 0, too", y.run(300), 2);
        due.is("UNKNOWN waited till u", y.at(1, 120), 2);
        due.is("and no 0", y.value(1), 2);
    }

    private static void ruleZero(Due due) {
        due.says("rule 0: w waits no more (nor what was to come behind it); v waits, till t and its delay");
        EventWaves x = buffer(0, 10, 10);
        x.drive(0, 110, 1);
        x.drive(0, 119, 2);
        due.is("w is gone", x.run(128), 2);
        due.is("v waits till t and its delay", x.run(129), 1);
        due.is("v", x.value(1), 2);
        EventWaves y = buffer(0, 10, 2);
        y.drive(0, 110, 1);
        y.drive(0, 112, 2);
        due.is("v may be due before u", y.run(114), 3);
        due.is("v", y.value(1), 2);
        due.is("nothing at u", y.run(300), 0);
    }

    private static void ruleZeroToWhatItHas(Due due) {
        due.says("if v is not what it has");
        EventWaves x = buffer(0, 10, 10);
        x.drive(0, 110, 1);
        x.drive(0, 119, 0);
        due.is("the pulse vanishes", x.run(300), 2);
        due.is("no change", x.counted(1), 1);
        x.drive(0, 310, 1);
        x.drive(0, 321, 0);
        due.is("one longer than the delay does not", x.run(400), 4);
        due.is("two changes", x.counted(1), 3);
    }

    private static void ruleZeroTakesWhatIsBehind(Due due) {
        due.says("(nor what was to come behind it)");
        EventWaves x = buffer(1, 10, 10);
        x.drive(0, 110, 1);
        x.drive(0, 112, 2);
        x.drive(0, 113, 0);
        x.run(114);
        x.spike(0);
        x.drive(0, 115, 1);
        due.is("the hand and 1", x.run(300), 2);
        due.is("one change", x.counted(1), 2);
        due.is("1 after its own delay", x.change(6, 0), 125);
    }

    private static void ruleOne(Due due) {
        due.says("Rule 1: UNKNOWN waits till u (in place of w), and BEHIND that v, till the greater one of u and t and its delay");
        for (int t = 113; t < 120; t++) {
            EventWaves x = buffer(1, 10, 4);
            x.drive(0, 110, 1);
            x.drive(0, t, 0);
            due.is("before u", x.run(119), 2);
            int end = Math.max(120, t + 4);
            due.is("UNKNOWN at u, and v if it is due", x.run(120), end == 120 ? 2 : 1);
            due.is("the value at u", x.value(1), end == 120 ? 0 : 2);
            due.is("just before v", x.run(Math.max(120, end - 1)), 0);
            due.is("v", x.run(end), end == 120 ? 0 : 1);
            due.is("the value", x.value(1), 0);
            due.is("UNKNOWN was seen", x.counted(1), 3);
            int latest = x.change(0, 3) - 1;
            due.is("at u", x.change(latest - 1, 0), 120);
            due.is("and v at its time", x.change(latest, 0), end);
        }
    }

    private static void ruleOneWithOneBehind(Due due) {
        due.says("if UNKNOWN waits already with something behind it, just that becomes v likewise");
        EventWaves x = buffer(1, 10, 4);
        x.drive(0, 110, 1);
        x.drive(0, 112, 0);
        x.drive(0, 114, 1);
        due.is("before u", x.run(119), 3);
        due.is("UNKNOWN at u as before", x.run(120), 1);
        due.is("not before 114 and its delay", x.run(123), 0);
        due.is("1", x.run(124), 1);
        due.is("the value", x.value(1), 1);
        EventWaves y = buffer(1, 10, 4);
        y.drive(0, 110, 1);
        y.drive(0, 111, 0);
        y.drive(0, 112, 1);
        y.drive(0, 113, 0);
        due.is("v due before u comes at u", y.run(120), 6);
        due.is("the value", y.value(1), 0);
    }

    private static void ruleOneToUnknown(Due due) {
        due.says("UNKNOWN waits till u (in place of w), and BEHIND that v");
        EventWaves x = buffer(1, 10, 4);
        x.drive(0, 110, 1);
        x.drive(0, 111, 2);
        due.is("UNKNOWN before its own delay: not at 115", x.run(119), 2);
        due.is("at u", x.run(120), 1);
        due.is("and UNKNOWN behind it does not come", x.run(300), 0);
        EventWaves y = buffer(1, 10, 4);
        y.drive(0, 110, 2);
        y.drive(0, 112, 1);
        due.is("w that is UNKNOWN stays", y.run(114), 3);
        due.is("with v behind it", y.run(122), 1);
        due.is("the value", y.value(1), 1);
    }

    private static void whatWasBehindWaitsThen(Due due) {
        due.says("When what waits is due, the gate has it; what was behind it waits then (if it is not what the gate has).");
        EventWaves x = buffer(1, 10, 10);
        x.drive(0, 110, 1);
        x.drive(0, 115, 0);
        x.run(120);
        x.spike(0);
        x.drive(0, 122, 1);
        due.is("what waits now is replaced by rule 0", x.run(131), 1);
        due.is("by what has its own delay", x.run(132), 1);
        due.is("the value", x.value(1), 1);
        EventWaves y = buffer(1, 10, 10);
        y.drive(0, 110, 1);
        y.drive(0, 115, 2);
        due.is("what the gate has already does not wait", y.run(300), 3);
    }

    private static void rulesThereAre(Due due) {
        due.says("IllegalArgumentException: it is not 0 or 1.");
        EventWaves x = new EventWaves();
        for (int rule : new int[] {-1, 2, Integer.MIN_VALUE, Integer.MAX_VALUE}) {
            due.refuses("rule " + rule, Due.ARGUMENT, () -> x.spike(rule) ? 1 : 0);
        }
        due.is("rule 0 yet", x.spike(0), false);
        due.is("rule 1", x.spike(1), true);
        due.refuses("rule 2", Due.ARGUMENT, () -> x.spike(2) ? 1 : 0);
        due.is("rule 1 yet", x.spike(1), false);
    }

    private static void ruleIsAnother(Due due) {
        due.says("The rule from now on: whether it is another one.");
        EventWaves x = new EventWaves();
        due.is("0 to 0", x.spike(0), false);
        due.is("0 to 1", x.spike(1), true);
        due.is("1 to 1", x.spike(1), false);
        due.is("1 to 0", x.spike(0), true);
        EventWaves y = buffer(0, 10, 10);
        y.drive(0, 110, 1);
        y.drive(0, 111, 0);
        y.run(111);
        y.spike(1);
        due.is("what vanished before stays so", y.run(300), 0);
    }

    /** One told event for each of the three calls. */
    private interface Teller {
        int at(EventWaves x, long time);
    }

    private static final Teller[] TELLERS = {
        (x, time) -> x.drive(0, time, 1), (x, time) -> x.force(0, time, 1), (x, time) -> x.release(0, time)
    };

    private static void notBeforeNow(Due due) {
        due.says("HAND EVENTS are told for times (not before now)");
        for (Teller teller : TELLERS) {
            EventWaves x = Due.withNets(1);
            x.run(10);
            due.refuses("just before now", Due.ARGUMENT, () -> teller.at(x, 9));
            due.refuses("below 0", Due.ARGUMENT, () -> teller.at(x, -1));
            due.refuses("far below 0", Due.ARGUMENT, () -> teller.at(x, Long.MIN_VALUE));
            due.is("now", teller.at(x, 10), 1);
            due.is("after now", teller.at(x, 11), 2);
            due.is("they come", x.run(11), 2);
        }
    }

    private static void notBeyondTheLastTime(Due due) {
        due.says("the time is before now or beyond 1000000000");
        for (Teller teller : TELLERS) {
            EventWaves x = Due.withNets(1);
            due.refuses("just beyond", Due.ARGUMENT, () -> teller.at(x, LAST + 1));
            due.refuses("far beyond", Due.ARGUMENT, () -> teller.at(x, Long.MAX_VALUE));
            due.refuses("beyond an int", Due.ARGUMENT, () -> teller.at(x, 1L << 32));
            due.is("the last time", teller.at(x, LAST), 1);
            due.is("just before it", teller.at(x, LAST - 1), 2);
            due.is("one comes", x.run(LAST - 1), 1);
            due.is("the other one comes", x.run(LAST), 1);
            due.is("one more at the last time", teller.at(x, LAST), 1);
            due.is("it comes", x.run(LAST), 1);
        }
    }

    private static void valuesThereAre(Due due) {
        due.says("IllegalArgumentException: no such value");
        EventWaves x = Due.withNets(2);
        for (int v : new int[] {-1, 4, Integer.MIN_VALUE, Integer.MAX_VALUE}) {
            due.refuses("drive to " + v, Due.ARGUMENT, () -> x.drive(0, 5, v));
            due.refuses("force to " + v, Due.ARGUMENT, () -> x.force(1, 5, v));
        }
        for (int v = 0; v < 4; v++) {
            due.is("drive to " + v, x.drive(0, 5 + v, v), 1);
            due.is("force to " + v, x.force(1, 5 + v, v), 2);
            x.run(5 + v);
            due.is("driven to " + v, x.value(0), v);
            due.is("forced to " + v, x.value(1), v);
        }
    }

    private static void hundredWait(Due due) {
        due.says("IllegalStateException: 100 wait");
        for (Teller teller : TELLERS) {
            EventWaves x = Due.withNets(1);
            for (int i = 0; i < 99; i++) {
                TELLERS[i % 3].at(x, 5 + i);
            }
            due.is("99 wait: one more", teller.at(x, 500), 100);
            due.refuses("100 wait", Due.STATE, () -> teller.at(x, 500));
            due.is("none came", x.run(4), 0);
            due.refuses("100 wait yet", Due.STATE, () -> teller.at(x, 500));
            due.is("one came", x.run(5), 1);
            due.is("99 wait: one more", teller.at(x, 500), 100);
            due.refuses("100 wait again", Due.STATE, () -> teller.at(x, 500));
        }
    }

    private static void howManyWait(Due due) {
        due.says("how many hand events wait");
        EventWaves x = Due.withNets(2);
        x.gate(0, 0, 0, 1);
        for (int i = 0; i < 100; i++) {
            due.is("they wait", TELLERS[i % 3].at(x, 7), i + 1);
        }
        due.is("all came", x.run(8), 101);
        x.drive(0, 9, 0);
        x.run(9);
        due.is("what a gate has waiting does not count", x.drive(0, 20, 1), 1);
    }

    private static void forcedNoMore(Due due) {
        due.says("A net is forced no more from a time on");
        EventWaves x = Due.withNets(1);
        x.drive(0, 1, 0);
        x.force(0, 2, 1);
        x.release(0, 5);
        x.run(4);
        due.is("just before", x.value(0), 1);
        x.run(5);
        due.is("from then on", x.value(0), 0);
        x.release(0, 6);
        due.is("a release of what is not forced is an event", x.run(6), 1);
        due.is("and no change", x.counted(0), 3);
    }

    private static void orderOfTimes(Due due) {
        due.says("EVENTS come in the order of their times");
        EventWaves x = Due.withNets(2);
        x.drive(0, 9, 1);
        x.drive(1, 8, 1);
        x.drive(0, 7, 0);
        x.drive(1, LAST, 0);
        x.drive(0, 0, 3);
        x.run(LAST);
        due.is("the text", Due.textOf(x), "#0\nz!\n#7\n0!\n#8\n1\"\n#9\n1!\n#1000000000\n0\"\n");
    }

    private static void orderOfNets(Due due) {
        due.says("of the same time by the nets that they are about (a gate's: its OUT)");
        EventWaves x = Due.withNets(5);
        x.gate(0, 4, 4, 3);
        x.gate(0, 4, 4, 1);
        x.drive(4, 5, 1);
        x.drive(2, 6, 1);
        x.drive(0, 6, 1);
        x.run(6);
        due.is("the text", Due.textOf(x), "#5\n1%\n#6\n1!\n1\"\n1#\n1$\n");
    }

    private static void handsBeforeGates(Due due) {
        due.says("of the same net hand events first, in the order in which they were told");
        EventWaves x = Due.withNets(2);
        x.gate(5, 0, 0, 1);
        x.run(2);
        x.force(1, 6, 0);
        x.release(1, 6);
        x.force(1, 6, 3);
        x.release(1, 6);
        x.drive(0, 5, 1);
        x.run(6);
        due.is("the text", Due.textOf(x), "#0\nz\"\n#1\nx\"\n#5\n1!\n#6\n0\"\nx\"\nz\"\nx\"\n1\"\n");
    }

    /** A bus that one gate takes and the other one leaves at the same time: OPEN between only if it is left first. */
    private static void gatesByNumbers(Due due) {
        due.says("then gates by numbers");
        for (int taker = 0; taker < 2; taker++) {
            EventWaves x = Due.withNets(4);
            x.gate(5, 0, 1, 3);
            x.gate(5, 0, 2, 3);
            x.drive(0, 1, 1);
            x.drive(1 + taker, 1, 0);
            x.drive(2 - taker, 1, 1);
            x.run(10);
            long before = x.counted(3);
            x.drive(1 + taker, 20, 1);
            x.drive(2 - taker, 20, 0);
            x.run(30);
            due.is("gate " + taker + " takes it", x.counted(3) - before, taker == 0 ? 0 : 2);
            due.is("the value", x.value(3), 1);
        }
    }

    /** Gates of net 23 without delays: each change of it brings an event of each of them at the same time. */
    private static EventWaves fan(int gates) {
        EventWaves x = Due.withNets(24);
        for (int i = 0; i < gates; i++) {
            x.gate(0, 23, 23, i % 20);
            x.delay(i, 0, 0);
        }
        return x;
    }

    private static void sixtyGateEvents(Due due) {
        due.says("In one run(), at one time, at most 60 gates' events come; the next one is a LOOP.");
        EventWaves x = fan(20);
        for (int i = 0; i < 3; i++) {
            x.drive(23, 5, i % 2);
        }
        due.is("60 gates' events and three hand events", x.run(5), 63);
        EventWaves y = fan(20);
        y.gate(0, 22, 22, 21);
        y.delay(20, 0, 0);
        for (int i = 0; i < 3; i++) {
            y.drive(23, 5, i % 2);
        }
        y.drive(22, 5, 1);
        due.is("net 21 first, then 59 of nets 0 to 19: the next one, of net 19, is a loop", y.run(5), -20);
        due.is("its net has not changed a third time", y.counted(19), 2);
    }

    private static void sixtyAtEachTime(Due due) {
        due.says("In one run(), at one time, at most 60 gates' events come");
        EventWaves x = fan(30);
        x.drive(23, 5, 1);
        x.drive(23, 5, 0);
        x.drive(23, 6, 1);
        x.drive(23, 6, 0);
        due.is("60 at one time and 60 at the next one", x.run(6), 124);
        EventWaves y = fan(30);
        y.drive(23, 5, 1);
        y.drive(23, 5, 0);
        due.is("60 in one run", y.run(5), 62);
        y.drive(23, 5, 1);
        y.drive(23, 5, 0);
        due.is("60 at the same time in the next one", y.run(5), 62);
        due.is("now", y.now(), 5);
    }

    private static void loopIsOfANet(Due due) {
        due.says("or -1 less the net of the first one that is a loop");
        for (int n : new int[] {0, 1, 22, 23}) {
            EventWaves x = Due.withNets(24);
            x.gate(1, n, n, n);
            x.delay(0, 0, 0);
            x.force(n, 5, 0);
            x.release(n, 7);
            due.is("an inverter of itself, net " + n, x.run(9), -1 - n);
            due.is("now", x.now(), 7);
        }
    }

    /** An AND and an inverter in a ring that net 0 sets free at time 20. */
    private static EventWaves ring(int delay) {
        EventWaves x = Due.withNets(3);
        x.gate(2, 0, 1, 2);
        x.gate(1, 2, 2, 1);
        x.drive(0, 10, 0);
        x.run(15);
        x.delay(0, delay, delay);
        x.delay(1, delay, delay);
        x.drive(0, 20, 1);
        return x;
    }

    private static void loopWaitsYet(Due due) {
        due.says("it waits yet, and now is its time");
        EventWaves x = ring(0);
        due.is("a loop", x.run(1000), -3);
        due.is("now", x.now(), 20);
        due.is("60 came: the changes", x.change(0, 3), 64);
        x.drive(0, 20, 0);
        due.is("the hand comes, then what waited does no more", x.run(20), 1);
        due.is("the AND has 0", x.value(2), 0);
        due.is("nothing is left", x.run(1000), 0);
        due.is("now", x.now(), 1000);
        EventWaves y = ring(0);
        y.run(1000);
        y.delay(0, 1, 1);
        y.delay(1, 1, 1);
        due.is("it comes in the next run, and one each time behind it", y.run(25), 6);
    }

    private static void handEventsAreNoLoop(Due due) {
        due.says("at most 60 gates' events come");
        EventWaves x = Due.withNets(2);
        for (int i = 0; i < 100; i++) {
            x.drive(0, 5, i % 2);
        }
        due.is("100 hand events at one time", x.run(5), 100);
        due.is("changes", x.counted(0), 100);
    }

    private static void upToATimeItselfToo(Due due) {
        due.says("All events up to a time (it itself, too) come");
        EventWaves x = Due.withNets(2);
        x.gate(0, 0, 0, 1);
        x.drive(0, 10, 1);
        due.is("just before", x.run(9), 0);
        due.is("now", x.now(), 9);
        due.is("it itself", x.run(10), 1);
        due.is("the gate's just before", x.run(10), 0);
        due.is("the gate's itself", x.run(11), 1);
        due.is("no more", x.run(11), 0);
        due.is("now", x.now(), 11);
    }

    /** Net 1 follows net 0: two events for each change by hand, from time 10 on, and some that change nothing. */
    private static EventWaves events(int changes, int others) {
        EventWaves x = Due.withNets(2);
        x.gate(0, 0, 0, 1);
        for (int i = 0; i < changes; i++) {
            x.drive(0, 10 + 2 * i, i % 2);
        }
        for (int i = 0; i < others; i++) {
            x.release(0, 500 + i);
        }
        return x;
    }

    private static void hundredFifty(Due due) {
        due.says("at most 150; that is now then (with 150: the time of the latest one)");
        EventWaves x = events(74, 1);
        due.is("149", x.run(1000), 149);
        due.is("now is the time told", x.now(), 1000);
        EventWaves y = events(74, 2);
        due.is("150", y.run(1000), 150);
        due.is("now is the time of the latest one", y.now(), 501);
        due.is("none is left", y.run(1000), 0);
        due.is("now", y.now(), 1000);
        EventWaves z = events(74, 3);
        due.is("151", z.run(1000), 150);
        due.is("now is the time of the latest one", z.now(), 501);
        due.is("one is left", z.run(1000), 1);
        due.is("now", z.now(), 1000);
    }

    private static void hundredFiftyOfOneTime(Due due) {
        due.says("(with 150: the time of the latest one)");
        EventWaves x = ring(0);
        for (int i = 0; i < 89; i++) {
            x.release(0, 20);
        }
        due.is("90 hand events and 60 gates' at one time", x.run(1000), 150);
        due.is("now is that time", x.now(), 20);
    }

    private static void hundredFiftyBeforeALoop(Due due) {
        due.says("All events up to a time (it itself, too) come, at most 150");
        EventWaves x = ring(0);
        for (int i = 0; i < 88; i++) {
            x.release(0, 20);
        }
        due.is("89 hand events and 60 gates': the 150th would be a loop", x.run(1000), -3);
        EventWaves y = ring(0);
        for (int i = 0; i < 89; i++) {
            y.release(0, 20);
        }
        due.is("the 151st is not looked at", y.run(1000), 150);
        due.is("60 more, then a loop", y.run(1000), -3);
    }

    private static void untilLimits(Due due) {
        due.says("IllegalArgumentException: until is before now or beyond 1000000000.");
        EventWaves x = Due.withNets(1);
        due.refuses("below 0", Due.ARGUMENT, () -> x.run(-1));
        due.is("0", x.run(0), 0);
        x.run(10);
        for (long until : new long[] {9, -1, Long.MIN_VALUE, LAST + 1, Long.MAX_VALUE, 1L << 32}) {
            due.refuses("until " + until, Due.ARGUMENT, () -> x.run(until));
            due.is("now", x.now(), 10);
        }
        due.is("now itself", x.run(10), 0);
        due.is("just behind now", x.run(11), 0);
        due.is("the last time", x.run(LAST), 0);
        due.is("once more", x.run(LAST), 0);
        due.refuses("just before the last time", Due.ARGUMENT, () -> x.run(LAST - 1));
        due.is("now", x.now(), LAST);
    }

    private static void eventsBeyondTheLastTime(Due due) {
        due.says("All events up to a time (it itself, too) come");
        EventWaves x = Due.withNets(3);
        x.gate(0, 0, 0, 1);
        x.gate(0, 0, 0, 2);
        x.delay(0, 1000, 1000);
        x.delay(1, 999, 999);
        x.drive(0, LAST - 999, 1);
        due.is("the gate that is due at the last time", x.run(LAST), 2);
        due.is("has it", x.value(2), 1);
        due.is("the gate that is due behind it never has", x.value(1), 2);
        due.is("but gives it", x.levels(), 1);
    }

    private static void changesOfANewGate(Due due) {
        due.says("A CHANGE is a net that takes another value (also when a gate is made)");
        EventWaves x = Due.withNets(3);
        x.gate(0, 0, 0, 1);
        x.drive(0, 5, 1);
        x.drive(0, 6, 1);
        x.run(8);
        due.is("the same value is no change", x.counted(0), 1);
        due.is("the gate has 1", x.value(1), 1);
        x.gate(0, 2, 2, 0);
        due.is("a new gate is", x.counted(0), 2);
        due.is("and gates are asked then", x.run(9), 1);
        due.is("net 1", x.value(1), 2);
    }

    /** Two nets that take turns, one change at a time: the last ones are made one by one. */
    private static void sixHundred(Due due) {
        due.says("Changes are kept, the first 600.");
        EventWaves x = ring(1);
        for (int i = 0; i < 3; i++) {
            x.run(100000);
        }
        long time = x.now() + 590 - x.change(0, 3);
        x.run(time);
        due.is("one at a time", x.change(0, 3), 590);
        for (int kept = 590; kept < 605; kept++) {
            due.is("kept", x.change(0, 3), Math.min(600, kept));
            due.is("the nets' changes", x.counted(0) + x.counted(1) + x.counted(2), kept);
            time++;
            due.is("one more", x.run(time), 1);
        }
        due.is("the last one kept", x.change(599, 0), 616);
        due.refuses("no more", Due.INDEX, () -> x.change(600, 0));
        due.is("the first one", x.change(0, 0), 10);
    }
}
