/** Changes and their text: promises 13 at, 15 change, 16 counted, 17 unit, 18 read and 19 write. */
public final class WavesTest {
    public static void main(String[] args) {
        Due due = new Due("WavesTest");
        at(due);
        change(due);
        sixHundredAreKept(due);
        unit(due);
        read(due);
        readBlanks(due);
        readFaults(due);
        readTimes(due);
        readTooMany(due);
        write(due);
        roundTrip(due);
        due.end();
    }

    private static void at(Due due) {
        EventWaves x = Due.withNets(2);
        x.drive(0, 5, 1);
        x.run(5);
        due.is("the very first change", x.at(0, 5), 1);
        x.drive(0, 5, 0);
        x.drive(0, 8, 3);
        x.run(10);
        due.is("before the first change", x.at(0, 4), 2);
        due.is("the end of a time with two", x.at(0, 5), 0);
        due.is("between", x.at(0, 7), 0);
        due.is("at the last one", x.at(0, 8), 3);
        due.is("now", x.at(0, 10), 3);
        due.is("time 0", x.at(0, 0), 2);
        due.is("another net", x.at(1, 8), 2);
        due.refuses("no net", Due.INDEX, () -> x.at(2, 5));
        due.refuses("no net goes before no time", Due.INDEX, () -> x.at(-1, -1));
        due.refuses("below 0", Due.ARGUMENT, () -> x.at(0, -1));
        due.refuses("beyond now", Due.ARGUMENT, () -> x.at(0, 11));
        due.refuses("far beyond now", Due.ARGUMENT, () -> x.at(0, (1L << 32) + 5));
    }

    private static void change(Due due) {
        EventWaves x = Due.withNets(2);
        due.is("none are kept", x.change(0, 3), 0);
        due.refuses("change 0 of none", Due.INDEX, () -> x.change(0, 0));
        due.refuses("change 1 of none", Due.INDEX, () -> x.change(1, 3));
        x.drive(1, 7, 0);
        x.drive(1, 7, 0);
        x.drive(0, 1000000000L, 3);
        x.run(1000000000L);
        due.is("two are kept", x.change(0, 3), 2);
        due.is("for k = 1, too", x.change(1, 3), 2);
        due.is("time of 0", x.change(0, 0), 7);
        due.is("net of 0", x.change(0, 1), 1);
        due.is("value of 0", x.change(0, 2), 0);
        due.is("time of 1", x.change(1, 0), 1000000000L);
        due.is("net of 1", x.change(1, 1), 0);
        due.is("value of 1", x.change(1, 2), 3);
        due.refuses("change 2", Due.INDEX, () -> x.change(2, 0));
        due.refuses("change 2, how many", Due.INDEX, () -> x.change(2, 3));
        due.refuses("change -1", Due.INDEX, () -> x.change(-1, 3));
        due.refuses("what 4", Due.INDEX, () -> x.change(0, 4));
        due.refuses("what -1", Due.INDEX, () -> x.change(0, -1));
        due.is("counted without the same value again", x.counted(1), 1);
        due.is("counted", x.counted(0), 1);
        due.refuses("counted(2)", Due.INDEX, () -> x.counted(2));
        due.refuses("counted(-1)", Due.INDEX, () -> x.counted(-1));
    }

    private static EventWaves ring() {
        EventWaves x = Due.withNets(3);
        x.gate(2, 0, 1, 2);
        x.gate(1, 2, 2, 1);
        x.drive(0, 10, 0);
        x.run(15);
        x.drive(0, 20, 1);
        x.run(20);
        return x;
    }

    private static EventWaves fullRing() {
        EventWaves x = ring();
        for (int i = 0; i < 5; i++) {
            x.run(100000);
        }
        return x;
    }

    private static String textOfFullRing() {
        StringBuilder text = new StringBuilder("#10\n0!\n#11\n0#\n#12\n1\"\n#20\n1!\n");
        for (int time = 21; time <= 616; time++) {
            text.append('#').append(time).append('\n').append(time / 2 % 2 == 0 ? '1' : '0');
            text.append(time % 2 == 0 ? '"' : '#').append('\n');
        }
        return text.toString();
    }

    private static void sixHundredAreKept(Due due) {
        EventWaves x = ring();
        for (int i = 0; i < 4; i++) {
            due.is("a ring", x.run(100000), 150);
        }
        due.is("kept", x.change(0, 3), 600);
        due.is("the last one's time", x.change(599, 0), 616);
        due.refuses("change 600", Due.INDEX, () -> x.change(600, 0));
        due.is("counted of net 1", x.counted(1), 301);
        due.is("counted of net 2", x.counted(2), 301);
        x.run(621);
        due.is("counted on", x.counted(2), 302);
        due.is("the value", x.value(2), 1);
        due.is("at, by those that are kept", x.at(2, 621), 0);
        due.is("the text of those that are kept", Due.textOf(WavesTest::fullRing), textOfFullRing());
    }

    private static void unit(Due due) {
        EventWaves x = Due.withNets(1);
        for (int i = 0; i < 450; i++) {
            due.is("room", x.unit(32), true);
        }
        due.is("blanks alone", x.read(), 0);
        due.is("room", x.unit('#' + 256), true);
        due.is("the lowest eight bits", x.unit('7' - 256), true);
        due.is("the lowest eight bits", x.unit('1' | Integer.MIN_VALUE), true);
        Due.put(x, " 0!");
        due.is("read", x.read(), 1);
        x.run(70);
        due.is("not yet", x.value(0), 2);
        x.run(71);
        due.is("told for 71", x.value(0), 0);
    }

    private static long answer(EventWaves x, String text) {
        Due.put(x, text);
        return x.read();
    }

    private static void read(Due due) {
        EventWaves x = Due.withNets(4);
        due.is("a text", answer(x, "#5\n0!\n1\"\n#8\nx#\nz$\n"), 4);
        due.is("they wait", x.drive(0, 9, 1), 5);
        due.is("the tape is empty then", x.read(), 0);
        due.is("they come", x.run(10), 5);
        due.is("as they were told", Due.textOf(x), "#5\n0!\n1\"\n#8\nz$\n#9\n1!\n");
        due.is("the hand, not a force", x.counted(2), 0);
        due.is("an empty tape", x.read(), 0);
        EventWaves y = Due.withNets(1);
        y.drive(0, 5, 1);
        due.is("behind what was told before", answer(y, "#5\n0!\n1!\n0!\n"), 3);
        y.run(5);
        due.is("in that order", Due.textOf(y), "#5\n1!\n0!\n1!\n0!\n");
    }

    private static void readBlanks(Due due) {
        EventWaves x = Due.withNets(20);
        due.is("all blanks", answer(x, " \t\r\n#5 \t\r\n0!\r\n\r\n 1\"\t"), 2);
        due.is("no blanks", answer(x, "#5x!z\"1#"), 3);
        due.is("no blank at the end", answer(x, "#007 1!"), 1);
        due.is("times that go back", answer(x, "#9 1! #8 0! #9 1!"), 3);
        due.is("a time alone", answer(x, "#9"), 0);
        due.is("times alone", answer(x, "#9#10"), 0);
        due.is("net 2 has the byte of #, net 15 that of 0", answer(x, "#9 1# 10 00"), 3);
        due.is("a blank within a time", answer(x, "# 9 1!"), -1);
        due.is("a blank within a value", answer(x, "#9 1 !"), -4);
        due.is("a vertical tab is none", answer(x, "#9\u000b1!"), -3);
        due.is("digits go with the time", answer(x, "#91!"), -4);
    }

    private static void readFaults(Due due) {
        EventWaves x = Due.withNets(2);
        x.run(10);
        due.is("no time was told", answer(x, " 1!#12"), -2);
        due.is("no digits", answer(x, "#"), -1);
        due.is("no digits behind others", answer(x, "#12 1! #x!"), -8);
        due.is("a sign", answer(x, "#-12 1!"), -1);
        due.is("no net", answer(x, "#12 1!1#"), -7);
        due.is("a byte below 33", answer(x, "#12 1 "), -5);
        due.is("a byte far beyond", answer(x, "#12 1\u00ff"), -5);
        due.is("the end behind a value", answer(x, "#12 1! 0"), -8);
        due.is("no value", answer(x, "#12 2!"), -5);
        due.is("a capital letter", answer(x, "#12 X!"), -5);
        due.is("before now", answer(x, "#12 1! #9 1!"), -8);
        due.is("before now, without a value", answer(x, "#9"), -1);
        due.is("beyond the last time", answer(x, "#1000000001"), -1);
        due.is("digits beyond a long", answer(x, "#99999999999999999999999999 1!"), -1);
        due.is("digits beyond an int that wrap", answer(x, "#4294967308 1!"), -1);
        due.is("the first fault", answer(x, "#12 q! w!"), -5);
        due.is("nothing was told", x.drive(0, 10, 1), 1);
        due.is("the tape is empty after a fault", x.read(), 0);
    }

    private static void readTimes(Due due) {
        EventWaves x = Due.withNets(1);
        x.run(10);
        due.is("now itself", answer(x, "#10 1!"), 1);
        due.is("it comes", x.run(10), 1);
        due.is("the last time", answer(x, "#1000000000 0!"), 1);
        due.is("zeros before it", answer(x, "#00000000000000000000000000011 0!"), 1);
        due.is("it comes", x.run(11), 1);
        due.is("the last one comes", x.run(1000000000L), 1);
    }

    private static void readTooMany(Due due) {
        EventWaves x = Due.withNets(1);
        x.drive(0, 1, 1);
        Due.put(x, "#5");
        for (int i = 0; i < 100; i++) {
            Due.put(x, i % 2 == 0 ? " 0!" : " 1!");
        }
        due.refuses("101 would wait", Due.STATE, x::read);
        due.is("none of them waits", x.drive(0, 2, 0), 2);
        x.run(3);
        due.is("the tape stayed", x.read(), 100);
        due.refuses("as many as can be", Due.STATE, () -> x.drive(0, 9, 0));
        due.is("no events are not too many", answer(x, "#9"), 0);
        Due.put(x, "#9 1!");
        due.refuses("one more", Due.STATE, x::read);
        due.is("a fault behind it: nothing would be told", answer(x, "?"), -6);
    }

    private static void write(Due due) {
        EventWaves x = Due.withNets(24);
        due.is("no changes", Due.textOf(x), "");
        due.refuses("byte 0 of none", Due.INDEX, () -> x.write(0));
        x.drive(23, 0, 0);
        x.drive(1, 9, 1);
        x.drive(1, 10, 2);
        x.drive(0, 10, 3);
        x.drive(2, 1234567890 / 10, 0);
        x.drive(3, 1000000000L, 0);
        x.run(1000000000L);
        String want = "#0\n08\n#9\n1\"\n#10\nz!\nx\"\n#123456789\n0#\n#1000000000\n0$\n";
        due.is("the text", Due.textOf(x), want);
        due.is("its last byte", x.write(want.length() - 1), 10);
        due.refuses("behind its end", Due.INDEX, () -> x.write(want.length()));
        due.refuses("far behind its end", Due.INDEX, () -> x.write(Integer.MAX_VALUE));
        due.refuses("byte -1", Due.INDEX, () -> x.write(-1));
        due.refuses("far below 0", Due.INDEX, () -> x.write(Integer.MIN_VALUE));
    }

    private static void roundTrip(Due due) {
        EventWaves x = Due.withNets(5);
        for (int i = 0; i < 60; i++) {
            x.drive(i * 7 % 5, i * i % 90, i * 3 % 4);
        }
        x.run(100);
        String text = Due.textOf(x);
        EventWaves y = Due.withNets(5);
        due.is("what was written is read", answer(y, text), x.change(0, 3));
        y.run(100);
        due.is("and written again", Due.textOf(y), text);
    }
}
