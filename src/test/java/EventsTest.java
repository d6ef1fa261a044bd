/** Events: promises 5 spike, 6 drive, 7 force, 8 release, 11 run and 12 now. */
public final class EventsTest {
    public static void main(String[] args) {
        Due due = new Due("EventsTest");
        drive(due);
        force(due);
        release(due);
        handRefusals(due);
        atMostHundredWait(due);
        run(due);
        orderOfHands(due);
        orderOfGates(due);
        earlierGatesFirst(due);
        handsBeforeGates(due);
        lowerNetsFirst(due);
        spike(due);
        pulseVanishes(due);
        pulseBlurs(due);
        behindIsReplaced(due);
        behindIsTakenAway(due);
        behindUnderTheOtherRule(due);
        behindIsWhatTheGateHas(due);
        pulseThatEndsAtOnce(due);
        gateThatHearsItself(due);
        sixtyGateEvents(due);
        loop(due);
        hundredFifty(due);
        due.end();
    }

    private static void drive(Due due) {
        EventWaves x = Due.withNets(2);
        due.is("one waits", x.drive(0, 0, 1), 1);
        due.is("two wait", x.drive(0, 5, 3), 2);
        due.is("nothing before it runs", x.value(0), 2);
        due.is("run(0)", x.run(0), 1);
        due.is("the hand has it", x.value(0), 1);
        due.is("two wait again", x.drive(1, 3, 0), 2);
        x.run(5);
        due.is("an OPEN hand alone", x.value(0), 3);
        due.is("the other net", x.value(1), 0);
        due.is("the last time", x.drive(0, 1000000000L, 0), 1);
        due.is("now itself", x.drive(0, 5, 2), 2);
    }

    private static void force(Due due) {
        EventWaves x = Due.withNets(2);
        x.gate(0, 0, 0, 1);
        x.drive(0, 1, 1);
        x.run(5);
        due.is("force", x.force(1, 6, 0), 1);
        x.run(6);
        due.is("forced against a gate", x.value(1), 0);
        x.drive(1, 7, 1);
        x.run(7);
        due.is("forced against the hand", x.value(1), 0);
        x.force(1, 8, 3);
        x.run(8);
        due.is("forced to OPEN", x.value(1), 3);
        x.force(1, 9, 2);
        x.run(9);
        due.is("forced to UNKNOWN", x.value(1), 2);
        due.is("changes", x.counted(1), 4);
    }

    private static void release(Due due) {
        EventWaves x = Due.withNets(2);
        x.force(0, 1, 1);
        x.drive(0, 2, 0);
        due.is("release", x.release(0, 3), 3);
        x.run(2);
        due.is("forced yet", x.value(0), 1);
        x.run(3);
        due.is("the hand was remembered", x.value(0), 0);
        x.release(1, 4);
        due.is("a net without events", x.value(1), 2);
        x.run(4);
        due.is("a net follows from its first hand event on", x.value(1), 3);
        EventWaves y = Due.withNets(1);
        y.force(0, 1, 1);
        y.release(0, 2);
        y.run(2);
        due.is("a net that was forced and has no more", y.value(0), 3);
    }

    private static void handRefusals(Due due) {
        EventWaves x = Due.withNets(1);
        x.run(10);
        due.refuses("drive of no net", Due.INDEX, () -> x.drive(1, 20, 0));
        due.refuses("force of no net", Due.INDEX, () -> x.force(-1, 20, 0));
        due.refuses("release of no net", Due.INDEX, () -> x.release(1, 20));
        due.refuses("no net goes before no value", Due.INDEX, () -> x.drive(1, 2, 9));
        due.refuses("drive to 4", Due.ARGUMENT, () -> x.drive(0, 20, 4));
        due.refuses("drive to -1", Due.ARGUMENT, () -> x.drive(0, 20, -1));
        due.refuses("force to 4", Due.ARGUMENT, () -> x.force(0, 20, 4));
        due.refuses("force to -1", Due.ARGUMENT, () -> x.force(0, 20, -1));
        due.refuses("drive before now", Due.ARGUMENT, () -> x.drive(0, 9, 0));
        due.refuses("force before now", Due.ARGUMENT, () -> x.force(0, 9, 0));
        due.refuses("release before now", Due.ARGUMENT, () -> x.release(0, 9));
        due.refuses("drive too late", Due.ARGUMENT, () -> x.drive(0, 1000000001L, 0));
        due.refuses("force too late", Due.ARGUMENT, () -> x.force(0, Long.MAX_VALUE, 0));
        due.refuses("release too late", Due.ARGUMENT, () -> x.release(0, 1000000001L));
        due.refuses("a time far below 0", Due.ARGUMENT, () -> x.drive(0, Long.MIN_VALUE, 0));
        due.is("nothing was told", x.drive(0, 10, 0), 1);
    }

    private static void atMostHundredWait(Due due) {
        EventWaves x = Due.withNets(1);
        for (int i = 0; i < 99; i++) {
            x.drive(0, 5 + i, i % 2);
        }
        due.is("the hundredth", x.release(0, 200), 100);
        due.refuses("drive 101", Due.STATE, () -> x.drive(0, 5, 0));
        due.refuses("force 101", Due.STATE, () -> x.force(0, 5, 0));
        due.refuses("release 101", Due.STATE, () -> x.release(0, 5));
        due.refuses("too many goes before no value", Due.STATE, () -> x.drive(0, 5, 4));
        due.refuses("no net goes before too many", Due.INDEX, () -> x.drive(1, 5, 0));
        x.run(5);
        due.is("there is room again", x.force(0, 6, 1), 100);
    }

    private static void run(Due due) {
        EventWaves x = Due.withNets(2);
        x.gate(1, 0, 0, 1);
        x.drive(0, 10, 1);
        due.is("up to before", x.run(9), 0);
        due.is("now", x.now(), 9);
        due.is("up to it itself", x.run(10), 1);
        due.is("now", x.now(), 10);
        due.is("the gate", x.run(1000), 1);
        due.is("now is the time told", x.now(), 1000);
        due.refuses("before now", Due.ARGUMENT, () -> x.run(999));
        due.refuses("too late", Due.ARGUMENT, () -> x.run(1000000001L));
        due.refuses("far too late", Due.ARGUMENT, () -> x.run(Long.MAX_VALUE));
        due.is("now is as it was", x.now(), 1000);
        x.drive(0, 1000000000L, 0);
        due.is("the last time", x.run(1000000000L), 1);
        due.is("a gate's event beyond it does not come", x.run(1000000000L), 0);
        due.is("so the net stays", x.value(1), 0);
        due.is("now", x.now(), 1000000000L);
    }

    private static void orderOfHands(Due due) {
        EventWaves x = Due.withNets(3);
        x.drive(2, 5, 1);
        x.drive(1, 6, 0);
        x.drive(1, 5, 1);
        x.drive(0, 5, 0);
        x.drive(0, 5, 1);
        x.force(0, 5, 0);
        x.release(0, 5);
        x.run(6);
        due.is("times, nets, then as told", Due.textOf(x), "#5\n0!\n1!\n0!\n1!\n1\"\n1#\n#6\n0\"\n");
    }

    /** A bus is handed over: gate 0 takes it before gate 1 leaves it. */
    private static void orderOfGates(Due due) {
        EventWaves x = Due.withNets(4);
        x.gate(5, 0, 1, 3);
        x.gate(5, 0, 2, 3);
        x.drive(0, 1, 1);
        x.drive(1, 1, 0);
        x.drive(2, 1, 1);
        x.run(10);
        due.is("gate 1 has the bus", x.value(3), 1);
        long before = x.counted(3);
        x.drive(1, 20, 1);
        x.drive(2, 20, 0);
        x.run(30);
        due.is("gate 0 comes first, so nothing is seen", x.counted(3), before);
        x.drive(1, 40, 0);
        x.drive(2, 40, 1);
        x.run(50);
        due.is("back again it is OPEN between", x.counted(3), before + 2);
    }

    private static void earlierGatesFirst(Due due) {
        EventWaves x = Due.withNets(4);
        for (int i = 0; i < 3; i++) {
            x.gate(0, 0, 0, 1 + i);
        }
        x.delay(0, 20, 20);
        x.delay(1, 10, 10);
        x.delay(2, 15, 15);
        x.drive(0, 5, 1);
        due.is("gates by their times", x.run(100), 4);
        due.is("gates by their times", Due.textOf(x), "#5\n1!\n#15\n1#\n#20\n1$\n#25\n1\"\n");
        EventWaves y = Due.withNets(3);
        y.gate(0, 0, 0, 2);
        y.gate(0, 0, 0, 1);
        y.drive(0, 5, 1);
        y.run(10);
        due.is("at one time by their nets, not by their numbers", Due.textOf(y), "#5\n1!\n#6\n1\"\n1#\n");
    }

    private static void handsBeforeGates(Due due) {
        EventWaves x = Due.withNets(2);
        x.gate(0, 0, 0, 1);
        x.drive(0, 5, 1);
        x.drive(1, 6, 0);
        x.run(6);
        due.is("the hand is first", Due.textOf(x), "#5\n1!\n");
        EventWaves y = Due.withNets(2);
        y.gate(5, 0, 0, 1);
        y.run(2);
        y.drive(0, 5, 1);
        y.force(1, 6, 0);
        y.run(6);
        due.is("the force is first", Due.textOf(y), "#0\nz\"\n#1\nx\"\n#5\n1!\n#6\n0\"\n");
    }

    /** An event that arises for a lower net at the same time goes before what waits for higher ones. */
    private static void lowerNetsFirst(Due due) {
        EventWaves x = Due.withNets(3);
        x.gate(0, 1, 1, 0);
        x.delay(0, 0, 0);
        x.drive(1, 5, 1);
        x.drive(1, 5, 0);
        x.drive(2, 5, 1);
        x.run(5);
        due.is("gates of lower nets come between", Due.textOf(x), "#5\n1\"\n1!\n0\"\n0!\n1#\n");
    }

    private static void spike(Due due) {
        EventWaves x = Due.withNets(1);
        due.is("the same rule", x.spike(0), false);
        due.is("another rule", x.spike(1), true);
        due.is("the same rule again", x.spike(1), false);
        due.refuses("rule 2", Due.ARGUMENT, () -> x.spike(2) ? 1 : 0);
        due.refuses("rule -1", Due.ARGUMENT, () -> x.spike(-1) ? 1 : 0);
        due.is("a refused call changes nothing", x.spike(1), false);
        due.is("back to rule 0", x.spike(0), true);
    }

    /** Net 1 follows net 0 with delays; both are 0 at time 100. */
    private static EventWaves buffer(int rule, int rise, int fall) {
        EventWaves x = Due.withNets(2);
        x.gate(0, 0, 0, 1);
        x.drive(0, 5, 0);
        x.run(100);
        x.delay(0, rise, fall);
        x.spike(rule);
        return x;
    }

    private static void pulseVanishes(Due due) {
        EventWaves x = buffer(0, 10, 10);
        x.drive(0, 110, 1);
        x.drive(0, 119, 0);
        due.is("a short pulse", x.run(200), 2);
        due.is("is not seen", x.counted(1), 1);
        x.drive(0, 210, 1);
        x.drive(0, 213, 2);
        due.is("another value in place of it", x.run(300), 3);
        due.is("before", x.at(1, 222), 0);
        due.is("counts from its own time", x.at(1, 223), 2);
        x.drive(0, 310, 1);
        x.drive(0, 320, 0);
        due.is("at the very end, the lower net comes first", x.run(400), 3);
        due.is("so 1 vanishes too", x.at(1, 329), 2);
        due.is("and 0 comes", x.at(1, 330), 0);
    }

    private static void pulseBlurs(Due due) {
        EventWaves x = buffer(1, 10, 4);
        x.drive(0, 110, 1);
        x.drive(0, 118, 0);
        due.is("two events of the gate", x.run(200), 4);
        due.is("before it was due", x.at(1, 119), 0);
        due.is("UNKNOWN when it was due", x.at(1, 120), 2);
        due.is("UNKNOWN yet", x.at(1, 121), 2);
        due.is("the new value after its delay", x.at(1, 122), 0);
        x.drive(0, 210, 1);
        x.run(300);
        due.is("a long pulse stays", x.value(1), 1);
        due.is("without UNKNOWN", x.counted(1), 4);
    }

    private static void behindIsReplaced(Due due) {
        EventWaves x = buffer(1, 10, 10);
        x.drive(0, 110, 1);
        x.drive(0, 112, 0);
        x.drive(0, 115, 1);
        due.is("events", x.run(200), 5);
        due.is("UNKNOWN", x.at(1, 120), 2);
        due.is("UNKNOWN yet", x.at(1, 124), 2);
        due.is("the latest", x.at(1, 125), 1);
        due.is("and no other one", x.counted(1), 3);
    }

    private static void behindIsTakenAway(Due due) {
        EventWaves x = buffer(1, 10, 10);
        x.drive(0, 110, 1);
        x.drive(0, 112, 0);
        x.drive(0, 115, 2);
        due.is("UNKNOWN alone comes", x.run(200), 4);
        due.is("at the first one's time", x.at(1, 120), 2);
        due.is("and stays", x.value(1), 2);
    }

    private static void behindUnderTheOtherRule(Due due) {
        EventWaves x = buffer(1, 10, 10);
        x.drive(0, 110, 1);
        x.drive(0, 112, 0);
        x.run(113);
        x.spike(0);
        x.drive(0, 115, 1);
        due.is("neither UNKNOWN nor what was behind comes", x.run(200), 2);
        due.is("before", x.at(1, 124), 0);
        due.is("the latest", x.at(1, 125), 1);
    }

    private static void behindIsWhatTheGateHas(Due due) {
        EventWaves x = buffer(1, 10, 10);
        x.drive(0, 110, 1);
        x.drive(0, 112, 2);
        due.is("UNKNOWN behind UNKNOWN does not come", x.run(200), 3);
        due.is("UNKNOWN when the first one was due", x.at(1, 120), 2);
        EventWaves y = Due.withNets(2);
        y.gate(0, 0, 0, 1);
        y.delay(0, 10, 10);
        y.spike(1);
        y.drive(0, 10, 1);
        y.drive(0, 12, 0);
        due.is("a gate that has UNKNOWN takes UNKNOWN, an event", y.run(20), 3);
        due.is("without a change", y.counted(1), 0);
        due.is("then what was behind", y.run(22), 1);
        due.is("as a change", y.value(1), 0);
    }

    private static void pulseThatEndsAtOnce(Due due) {
        EventWaves x = buffer(1, 10, 2);
        x.drive(0, 110, 1);
        x.drive(0, 113, 0);
        due.is("both are due at the same time", x.run(120), 4);
        due.is("the end of that time", x.at(1, 120), 0);
        due.is("UNKNOWN was there", x.counted(1), 3);
    }

    /** The behind waits already when the gate, changing its own A, is asked. */
    private static void gateThatHearsItself(Due due) {
        EventWaves x = Due.withNets(2);
        x.gate(2, 0, 1, 1);
        x.spike(1);
        x.force(1, 5, 1);
        x.drive(0, 5, 0);
        x.run(10);
        due.is("the gate has 0 behind the force", x.value(1), 1);
        x.delay(0, 10, 10);
        x.drive(0, 20, 1);
        x.drive(0, 22, 0);
        x.release(1, 25);
        x.run(25);
        due.is("net 1 is 0 again, and the gate gives 0", x.value(1), 0);
        due.is("UNKNOWN at 30", x.run(30), 1);
        due.is("seen on its own A", x.value(1), 2);
        due.is("0 at 35", x.run(34), 0);
        due.is("0 at 35", x.run(35), 1);
        due.is("and stays", x.value(1), 0);
        due.is("nothing more", x.run(100), 0);
    }

    /** 30 gates of net 23, so each hand event of it brings 30 gates' events at the same time. */
    private static EventWaves fan() {
        EventWaves x = Due.withNets(24);
        for (int i = 0; i < 30; i++) {
            x.gate(0, 23, 23, i % 20);
            x.delay(i, 0, 0);
        }
        return x;
    }

    private static void sixtyGateEvents(Due due) {
        EventWaves x = fan();
        x.drive(23, 5, 1);
        x.drive(23, 5, 0);
        x.drive(23, 6, 1);
        due.is("60 at time 5 are no loop, 30 at time 6", x.run(6), 93);
        EventWaves y = fan();
        y.drive(23, 5, 1);
        y.drive(23, 5, 0);
        y.drive(23, 5, 1);
        due.is("the 61st is a loop of net 0", y.run(9), -1);
        due.is("now is its time", y.now(), 5);
        due.is("the hand event came", y.value(23), 1);
        due.is("it waits yet: 30 in the next run", y.run(9), 30);
        due.is("now", y.now(), 9);
    }

    private static EventWaves ring(int delay) {
        EventWaves x = Due.withNets(3);
        x.gate(2, 0, 1, 2);
        x.gate(1, 2, 2, 1);
        x.drive(0, 10, 0);
        x.run(15);
        x.delay(0, delay, delay);
        x.delay(1, delay, delay);
        x.drive(0, 20, 1);
        return x;
    }

    private static void loop(Due due) {
        EventWaves x = ring(0);
        due.is("a ring without delays", x.run(100), -3);
        due.is("now", x.now(), 20);
        due.is("30 of its events were of net 1", x.counted(1), 31);
        due.is("30 of its events were of net 2", x.counted(2), 31);
        due.is("the next run begins anew", x.run(20), -3);
        due.is("60 more came", x.counted(2), 61);
        x.delay(0, 1, 1);
        due.is("what waits comes, then it takes time", x.run(20), 2);
    }

    private static void hundredFifty(Due due) {
        EventWaves x = ring(1);
        due.is("a ring runs for ever", x.run(1000), 150);
        due.is("now is the time of the latest", x.now(), 169);
        due.is("and on", x.run(1000), 150);
        due.is("now", x.now(), 319);
        due.is("less than 150", x.run(400), 81);
        due.is("now", x.now(), 400);
        EventWaves y = Due.withNets(2);
        y.gate(0, 0, 0, 1);
        for (int i = 0; i < 75; i++) {
            y.drive(0, 10 + 2 * i, i % 2);
        }
        due.is("just 150", y.run(1000), 150);
        due.is("now is the time of the latest", y.now(), 159);
        due.is("no more", y.run(1000), 0);
        due.is("now", y.now(), 1000);
        EventWaves z = Due.withNets(2);
        z.gate(0, 0, 0, 1);
        for (int i = 0; i < 74; i++) {
            z.drive(0, 10 + 2 * i, i % 2);
        }
        z.release(0, 500);
        due.is("just 149", z.run(1000), 149);
        due.is("now", z.now(), 1000);
    }
}
