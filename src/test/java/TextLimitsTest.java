/** The sentences of "4 WAVES AS A TEXT" and of promises 13 and 15 to 19 that name a boundary, one test for each. */
public final class TextLimitsTest {
    private static final long LAST = 1000000000L;
    private static final String VALUES = "01xz";

    public static void main(String[] args) {
        Due due = new Due("TextLimitsTest");
        timesInDigits(due);
        linesOfValues(due);
        aTimeWithSeveralChanges(due);
        noChangesNoText(due);
        bytesOfTheText(due);
        fullText(due);
        blanks(due);
        blanksWhereOneLikes(due);
        tokensAreWhole(due);
        valuesOfTokens(due);
        timesOfTokens(due);
        noSuchNet(due);
        noTimeWasTold(due);
        beforeNow(due);
        beyondTheLastTime(due);
        placeOfTheFirstFault(due);
        nothingIsTold(due);
        atTheTimeToldBefore(due);
        tapeIsEmptyThen(due);
        moreThanHundred(due);
        tapeStays(due);
        lowestEightBits(due);
        endOfATime(due);
        atByWhatIsKept(due);
        timesOfAt(due);
        partsOfAChange(due);
        noSuchChange(due);
        howManyAreKept(due);
        countedBeyondTheKept(due);
        due.end();
    }

    private static long answer(EventWaves x, String text) {
        Due.put(x, text);
        return x.read();
    }

    private static void timesInDigits(Due due) {
        due.says("Written: for each time with kept changes # and the time in digits and a line end (10)");
        EventWaves x = Due.withNets(1);
        StringBuilder want = new StringBuilder();
        long power = 1;
        int v = 0;
        for (int digits = 0; digits < 10; digits++) {
            for (long time : new long[] {power - 1, power}) {
                x.drive(0, time, v % 2);
                x.run(time);
                want.append('#').append(time).append('\n').append(v % 2).append("!\n");
                v++;
            }
            power *= 10;
        }
        String text = Due.textOf(x);
        due.is("0, 1, 9, 10, .. and the last time", text, want.toString());
        due.is("its first bytes", text.startsWith("#0\n0!\n#1\n1!\n#9\n0!\n#10\n1!\n"), true);
        due.is("its last bytes", text.endsWith("#999999999\n0!\n#1000000000\n1!\n"), true);
    }

    private static void linesOfValues(Due due) {
        due.says("then each change in turn: 0 1 x or z, one byte 33 and the net's number, and a line end");
        for (int net = 0; net < 24; net++) {
            EventWaves x = Due.withNets(24);
            StringBuilder want = new StringBuilder("#7\n");
            for (int v = 0; v < 4; v++) {
                x.drive(net, 7, v);
                want.append(VALUES.charAt(v)).append((char) (33 + net)).append('\n');
            }
            x.run(7);
            due.is("net " + net, Due.textOf(x), want.toString());
        }
    }

    private static void aTimeWithSeveralChanges(Due due) {
        due.says("for each time with kept changes");
        EventWaves x = Due.withNets(2);
        x.drive(0, 3, 1);
        x.drive(1, 3, 0);
        x.run(3);
        x.drive(0, 3, 0);
        x.run(3);
        x.drive(0, 4, 0);
        x.drive(1, 5, 1);
        x.run(5);
        due.is("one # for a time, also over two runs, none for one without a change",
            Due.textOf(x), "#3\n1!\n0\"\n0!\n#5\n1\"\n");
    }

    private static void noChangesNoText(Due due) {
        due.says("IndexOutOfBoundsException: it has not so many.");
        EventWaves x = Due.withNets(1);
        x.drive(0, 5, 2);
        x.run(10);
        for (int i : new int[] {0, 1, -1, Integer.MIN_VALUE, Integer.MAX_VALUE}) {
            due.refuses("byte " + i + " of none", Due.INDEX, () -> x.write(i));
        }
    }

    private static void bytesOfTheText(Due due) {
        due.says("Byte i of the text of all kept changes.");
        EventWaves x = Due.withNets(2);
        x.drive(1, 12, 3);
        x.drive(0, 345, 2);
        x.drive(0, 345, 0);
        x.run(345);
        String want = "#12\nz\"\n#345\n0!\n";
        for (int i = 0; i < want.length(); i++) {
            due.is("byte " + i, x.write(i), want.charAt(i));
        }
        for (int i : new int[] {want.length(), -1, Integer.MIN_VALUE, Integer.MAX_VALUE}) {
            due.refuses("byte " + i, Due.INDEX, () -> x.write(i));
        }
    }

    /** More than 600 changes, one each time: an AND and an inverter in a ring that is free from time 20 on. */
    private static EventWaves ringing(int runs) {
        EventWaves x = Due.withNets(4);
        x.gate(2, 0, 1, 2);
        x.gate(1, 2, 2, 1);
        x.drive(0, 10, 0);
        x.run(15);
        x.drive(0, 20, 1);
        for (int i = 0; i < runs; i++) {
            x.run(100000);
        }
        return x;
    }

    private static void fullText(Due due) {
        due.says("Byte i of the text of all kept changes.");
        EventWaves x = ringing(5);
        // Changes at 10 to 12 and from 20 to 616: 83 of the times have two digits, 517 three.
        int length = 83 * 7 + 517 * 8;
        due.is("the last line end", x.write(length - 1), 10);
        due.is("its net", x.write(length - 2), 34);
        due.is("the last #", x.write(length - 8), '#');
        due.refuses("behind the end", Due.INDEX, () -> x.write(length));
    }

    private static void blanks(Due due) {
        due.says("(blanks 9, 10, 13, 32 between tokens where one likes");
        for (int b = 0; b < 256; b++) {
            EventWaves x = Due.withNets(2);
            boolean isBlank = b == 9 || b == 10 || b == 13 || b == 32;
            boolean goesOn = b == '#' || b >= '0' && b <= '9';
            due.is("byte " + b + " between tokens", answer(x, "#5" + (char) b + "1!"), isBlank ? 1 : goesOn ? -5 : -3);
            due.is("what comes with byte " + b, x.run(5), isBlank ? 1 : 0);
        }
    }

    private static void blanksWhereOneLikes(Due due) {
        due.says("between tokens where one likes");
        EventWaves x = Due.withNets(2);
        due.is("none", answer(x, "#5x!z\"1!"), 3);
        due.is("many", answer(x, "#5 \t\r\n\n\r\t  x!   z\"\n\n\n1!"), 3);
        due.is("before and behind all", answer(x, "\n\r\t #5 1! \t\r\n"), 1);
        due.is("blanks alone", answer(x, " \t\r\n"), 0);
        due.is("one blank", answer(x, " "), 0);
        due.is("nothing", answer(x, ""), 0);
    }

    private static void tokensAreWhole(Due due) {
        due.says("# with digits is one token, a value with the byte behind it another one");
        EventWaves x = Due.withNets(2);
        for (char blank : new char[] {9, 10, 13, 32}) {
            due.is("a blank behind #", answer(x, "#" + blank + "5 1!"), -1);
            due.is("a blank behind a value", answer(x, "#5 1" + blank + "!"), -4);
            due.is("a blank within digits", answer(x, "#5" + blank + "5 1!"), -4);
        }
        due.is("# alone", answer(x, "#"), -1);
        due.is("# at the end", answer(x, "#5 1! #"), -7);
        due.is("a value alone at the end", answer(x, "#5 1! 0"), -7);
        due.is("a value alone behind blanks", answer(x, "#5 1!  \n0"), -9);
        due.is("two #", answer(x, "##5 1!"), -1);
    }

    private static void valuesOfTokens(Due due) {
        due.says("it is none such");
        for (int b = 0; b < 256; b++) {
            EventWaves x = Due.withNets(1);
            boolean isBlank = b == 9 || b == 10 || b == 13 || b == 32;
            int v = VALUES.indexOf(b);
            due.is("byte " + b + " as a value", answer(x, "#5 " + (char) b + "!"), v >= 0 ? 1 : isBlank ? -5 : -4);
            x.run(5);
            due.is("what byte " + b + " told", x.value(0), v >= 0 ? v : 2);
        }
    }

    private static void timesOfTokens(Due due) {
        due.says("# with digits is one token");
        for (int b = 0; b < 256; b++) {
            EventWaves x = Due.withNets(1);
            boolean isDigit = b >= '0' && b <= '9';
            due.is("byte " + b + " behind #", answer(x, "#" + (char) b + " 1!"), isDigit ? 1 : -1);
            x.run(8);
            due.is("what # and byte " + b + " told", x.value(0), isDigit && b != '9' ? 1 : 2);
        }
        EventWaves y = Due.withNets(1);
        due.is("zeros before it", answer(y, "#" + "0".repeat(450) + "7 1!"), 1);
        y.run(6);
        due.is("not yet", y.value(0), 2);
        y.run(7);
        due.is("at 7", y.value(0), 1);
    }

    private static void noSuchNet(Due due) {
        due.says("there is no such net");
        for (int count : new int[] {0, 1, 23, 24}) {
            for (int b = 0; b < 256; b++) {
                EventWaves x = Due.withNets(count);
                boolean isNet = b >= 33 && b < 33 + count;
                due.is("byte " + b + " with " + count + " nets", answer(x, "#5 1" + (char) b), isNet ? 1 : -4);
                x.run(5);
                due.is("its change", x.change(0, 3), isNet ? 1 : 0);
                if (isNet) {
                    due.is("its net", x.change(0, 1), b - 33);
                }
            }
        }
    }

    private static void noTimeWasTold(Due due) {
        due.says("no time was told");
        EventWaves x = Due.withNets(1);
        due.is("a value first", answer(x, "1! #5 1!"), -1);
        due.is("a value first behind blanks", answer(x, " \n1! #5 1!"), -3);
        due.is("the time of an earlier tape", answer(x, "#5"), 0);
        due.is("does not hold for the next one", answer(x, "1!"), -1);
        due.is("time 0 is a time", answer(x, "#0 1!"), 1);
    }

    private static void beforeNow(Due due) {
        due.says("or it is before now");
        EventWaves x = Due.withNets(1);
        due.is("0 is now", answer(x, "#0 1!"), 1);
        x.run(100);
        due.is("just before now", answer(x, "#99 1!"), -1);
        due.is("far before now", answer(x, "#0 1!"), -1);
        due.is("without a value behind it", answer(x, "#99"), -1);
        due.is("behind others", answer(x, "#200 1! #99 1!"), -9);
        due.is("now", answer(x, "#100 0!"), 1);
        due.is("it comes", x.run(100), 1);
        due.is("just behind now", answer(x, "#101 1!"), 1);
        due.is("it comes", x.run(101), 1);
    }

    private static void beyondTheLastTime(Due due) {
        due.says("or beyond 1000000000");
        EventWaves x = Due.withNets(1);
        String[] late = {
            "1000000001", "1000000010", "1999999999", "2147483648", "4294967296", "4294967301", "9999999999",
            "9223372036854775808", "18446744073709551616", "18446744073709551621", "9".repeat(450)
        };
        for (String time : late) {
            due.is(time, answer(Due.withNets(1), "#" + time + " 1!"), -1);
        }
        due.is("behind others", answer(x, "#5 1! #1000000001"), -7);
        due.is("just before the last time", answer(x, "#999999999 1!"), 1);
        due.is("the last time", answer(x, "#1000000000 0!"), 1);
        due.is("one comes", x.run(LAST - 1), 1);
        due.is("the other one comes", x.run(LAST), 1);
    }

    private static void placeOfTheFirstFault(Due due) {
        due.says("FAULT, the place of the first byte of a token (or the end)");
        EventWaves x = Due.withNets(1);
        due.is("place 0", answer(x, "?"), -1);
        due.is("behind blanks", answer(x, "   ?"), -4);
        due.is("the first one of several", answer(x, "#5 1! ? 1? #"), -7);
        due.is("a value's, not its net's", answer(x, "#5 1?"), -4);
        due.is("a time's, not its last digit's", answer(x, "#5 1! #1000000001 1!"), -7);
        due.is("a far place", answer(Due.withNets(1), " ".repeat(450) + "#5 1?"), -454);
    }

    private static void nothingIsTold(Due due) {
        due.says("then nothing is told");
        EventWaves x = Due.withNets(1);
        due.is("a fault at the end", answer(x, "#5 1! 0! 1! #6 0! ?"), -19);
        due.is("none waits", x.drive(0, 9, 1), 1);
        due.is("one comes", x.run(100), 1);
    }

    private static void atTheTimeToldBefore(Due due) {
        due.says("each line of a value tells the hand of that net to take it at the time told before");
        EventWaves x = Due.withNets(2);
        due.is("a text", answer(x, "#9#8 1! 0\" #20 #7 0! #8 z! #30"), 4);
        x.run(40);
        due.is("what came", Due.textOf(x), "#7\n0!\n#8\n1!\nz!\n0\"\n");
        EventWaves y = Due.withNets(1);
        y.force(0, 5, 1);
        due.is("a text", answer(y, "#6 0!"), 1);
        y.run(6);
        due.is("the hand, not a force", y.value(0), 1);
        y.release(0, 7);
        y.run(7);
        due.is("its value", y.value(0), 0);
    }

    private static void tapeIsEmptyThen(Due due) {
        due.says("The tape (which is empty then) is a text of waves: how many hand events it told");
        EventWaves x = Due.withNets(1);
        due.is("one", answer(x, "#5 1!"), 1);
        due.is("empty behind a text", x.read(), 0);
        due.is("a fault", answer(x, "#5 1! ?"), -7);
        due.is("empty behind a fault", x.read(), 0);
        due.is("the next text begins anew", answer(x, "#5 1!"), 1);
    }

    private static String lines(int count) {
        StringBuilder text = new StringBuilder("#5");
        for (int i = 0; i < count; i++) {
            text.append(i % 2 == 0 ? " 0!" : " 1!");
        }
        return text.toString();
    }

    private static void moreThanHundred(Due due) {
        due.says("IllegalStateException: with these more than 100 would wait");
        for (int waiting : new int[] {0, 1, 50, 99, 100}) {
            EventWaves x = Due.withNets(1);
            for (int i = 0; i < waiting; i++) {
                x.drive(0, 9, 1);
            }
            Due.put(x, lines(101 - waiting));
            due.refuses("101 with " + waiting, Due.STATE, x::read);
            EventWaves y = Due.withNets(1);
            for (int i = 0; i < waiting; i++) {
                y.drive(0, 9, 1);
            }
            due.is("100 with " + waiting, answer(y, lines(100 - waiting)), 100 - waiting);
            due.refuses("100 wait", Due.STATE, () -> y.drive(0, 9, 1));
            due.is("they come", y.run(9), 100);
        }
    }

    private static void tapeStays(Due due) {
        due.says("then the tape stays");
        EventWaves x = Due.withNets(1);
        x.drive(0, 1, 1);
        Due.put(x, lines(100));
        due.refuses("101 would wait", Due.STATE, x::read);
        due.refuses("101 would wait yet", Due.STATE, x::read);
        due.is("one waits", x.run(1), 1);
        due.is("what is on the tape grows", x.unit(' '), true);
        due.is("the tape is read now", x.read(), 100);
        due.is("and empty", x.read(), 0);
    }

    private static void lowestEightBits(Due due) {
        due.says("(its lowest eight bits)");
        int[] above = {0, 256, -256, 0x7fffff00, 0x80000000, 0xffffff00};
        for (int high : above) {
            EventWaves x = Due.withNets(1);
            for (char c : "#5 1!".toCharArray()) {
                due.is("room", x.unit(c | high), true);
            }
            due.is("with " + high, x.read(), 1);
        }
        EventWaves y = Due.withNets(1);
        y.unit(-1);
        due.is("-1 is 255", y.read(), -1);
        y.unit(256 + 32);
        due.is("a blank", y.read(), 0);
    }

    private static void endOfATime(Due due) {
        due.says("The value that a net has at the end of a time");
        EventWaves x = Due.withNets(2);
        x.drive(0, 5, 1);
        x.drive(0, 5, 0);
        x.drive(0, 5, 3);
        x.drive(0, 9, 1);
        x.drive(1, 7, 0);
        x.run(9);
        int[] want = {2, 2, 2, 2, 2, 3, 3, 3, 3, 1};
        for (int t = 0; t < want.length; t++) {
            due.is("at " + t, x.at(0, t), want[t]);
            due.is("the other net at " + t, x.at(1, t), t < 7 ? 2 : 0);
        }
        x.drive(0, 9, 0);
        x.run(9);
        due.is("now, once more", x.at(0, 9), 0);
    }

    private static void atByWhatIsKept(Due due) {
        due.says("by the changes that are kept");
        EventWaves x = ringing(5);
        due.is("the last one kept is of net 1 at 616", x.at(1, 616), 1);
        int before = x.at(1, 615);
        due.is("before it", before, 0);
        for (long t = 617; t < 625; t++) {
            due.is("later ones are not seen: net 1", x.at(1, t), 1);
            due.is("later ones are not seen: net 2", x.at(2, t), x.at(2, 616));
        }
        x.drive(3, x.now(), 1);
        x.run(x.now());
        due.is("a net whose first change is not kept", x.at(3, x.now()), 2);
        due.is("its value", x.value(3), 1);
    }

    private static void timesOfAt(Due due) {
        due.says("IllegalArgumentException: the time is below 0 or beyond now.");
        EventWaves x = Due.withNets(1);
        due.is("0 at 0", x.at(0, 0), 2);
        due.refuses("1 at 0", Due.ARGUMENT, () -> x.at(0, 1));
        x.drive(0, 10, 1);
        x.run(10);
        due.is("0", x.at(0, 0), 2);
        due.is("now", x.at(0, 10), 1);
        for (long time : new long[] {-1, 11, Long.MIN_VALUE, Long.MAX_VALUE, 1L << 32, (1L << 32) + 10}) {
            due.refuses("time " + time, Due.ARGUMENT, () -> x.at(0, time));
        }
        x.run(LAST);
        due.is("the last time", x.at(0, LAST), 1);
        due.refuses("beyond it", Due.ARGUMENT, () -> x.at(0, LAST + 1));
    }

    private static void partsOfAChange(Due due) {
        due.says("what = 0 its time, 1 the net, 2 the value, 3 how many are kept");
        EventWaves x = Due.withNets(24);
        x.drive(23, 0, 3);
        x.drive(7, LAST, 1);
        x.run(LAST);
        int[][] want = {{0, 23, 3, 2}, {1000000000, 7, 1, 2}};
        for (int i = 0; i < 2; i++) {
            int k = i;
            for (int what = 0; what < 4; what++) {
                due.is("change " + k + ", " + what, x.change(k, what), want[k][what]);
            }
            for (int what : new int[] {-1, 4, Integer.MIN_VALUE, Integer.MAX_VALUE}) {
                due.refuses("change " + k + ", " + what, Due.INDEX, () -> x.change(k, what));
            }
        }
    }

    private static void noSuchChange(Due due) {
        due.says("IndexOutOfBoundsException (also: no such what).");
        EventWaves x = Due.withNets(1);
        x.drive(0, 3, 1);
        x.drive(0, 4, 0);
        x.run(4);
        for (int k : new int[] {-1, 2, Integer.MIN_VALUE, Integer.MAX_VALUE}) {
            for (int w = -1; w < 5; w++) {
                int what = w;
                due.refuses("change " + k + ", " + what, Due.INDEX, () -> x.change(k, what));
            }
        }
        EventWaves y = ringing(5);
        due.is("the last one that can be kept", y.change(599, 1), 1);
        due.refuses("one beyond", Due.INDEX, () -> y.change(600, 1));
    }

    private static void howManyAreKept(Due due) {
        due.says("3 how many are kept (for k = 0, also without any)");
        EventWaves x = Due.withNets(1);
        due.is("without any", x.change(0, 3), 0);
        for (int what = 0; what < 3; what++) {
            int w = what;
            due.refuses("without any, " + w, Due.INDEX, () -> x.change(0, w));
        }
        due.refuses("k = 1 without any", Due.INDEX, () -> x.change(1, 3));
        due.refuses("k = -1 without any", Due.INDEX, () -> x.change(-1, 3));
        x.drive(0, 5, 1);
        x.run(5);
        due.is("one", x.change(0, 3), 1);
        due.refuses("k = 1 with one", Due.INDEX, () -> x.change(1, 3));
        due.is("600", ringing(5).change(0, 3), 600);
        due.is("600, k = 599", ringing(5).change(599, 3), 600);
    }

    private static void countedBeyondTheKept(Due due) {
        due.says("How many changes a net had.");
        EventWaves x = ringing(6);
        due.is("kept", x.change(0, 3), 600);
        due.is("net 0", x.counted(0), 2);
        due.is("nets 1 and 2, also those that are not kept", x.counted(1) + x.counted(2), 901);
        due.is("a net without any", x.counted(3), 0);
    }
}
