import java.util.function.Supplier;

/** Compares answers with those that are due and counts the wrong ones. */
final class Due {
    /** The document promises nothing of an object behind so many calls. */
    static final int MOST_CALLS = 512;
    private static final int BYTES_OF_ONE = 64;
    private static final int MOST_PARTS = 1000;

    static final Class<? extends RuntimeException> INDEX = IndexOutOfBoundsException.class;
    static final Class<? extends RuntimeException> STATE = IllegalStateException.class;
    static final Class<? extends RuntimeException> ARGUMENT = IllegalArgumentException.class;

    interface Call {
        long answer();
    }

    private final String name;
    private String sentence = "";
    private int looked;
    private int wrong;

    Due(String name) {
        this.name = name;
    }

    /** The sentence of the document that the answers from here on are about. */
    void says(String words) {
        sentence = "[" + words + "] ";
    }

    void is(String what, long got, long want) {
        looked++;
        if (got != want) {
            tellWrong(what + " answered " + got + ", due is " + want);
        }
    }

    void is(String what, boolean got, boolean want) {
        is(what, got ? 1 : 0, want ? 1 : 0);
    }

    void is(String what, String got, String want) {
        looked++;
        if (!got.equals(want)) {
            tellWrong(what + " is '" + got + "', due is '" + want + "'");
        }
    }

    void refuses(String what, Class<? extends RuntimeException> want, Call call) {
        looked++;
        String got;
        try {
            got = "answered " + call.answer();
        } catch (RuntimeException e) {
            if (e.getClass() == want) {
                return;
            }
            got = "threw " + e;
        }
        tellWrong(what + " " + got + ", due is " + want.getSimpleName());
    }

    private void tellWrong(String text) {
        wrong++;
        System.out.println(sentence + text);
    }

    /** Ends the program with exit code 1 if an answer was wrong. */
    void end() {
        System.out.println(name + ": " + looked + " answers, " + wrong + " of them wrong");
        if (wrong != 0) {
            System.exit(1);
        }
    }

    static EventWaves withNets(int count) {
        EventWaves x = new EventWaves();
        for (int i = 0; i < count; i++) {
            x.net();
        }
        return x;
    }

    static void put(EventWaves x, String text) {
        for (int i = 0; i < text.length(); i++) {
            x.unit(text.charAt(i));
        }
    }

    static String textOf(EventWaves x) {
        StringBuilder text = new StringBuilder();
        addBytes(x, MOST_CALLS, text);
        return text.toString();
    }

    /** A text that is too long for one object's calls: each of many objects that are made alike writes some bytes. */
    static String textOf(Supplier<EventWaves> maker) {
        StringBuilder text = new StringBuilder();
        for (int part = 0; part < MOST_PARTS; part++) {
            if (!addBytes(maker.get(), BYTES_OF_ONE, text)) {
                break;
            }
        }
        return text.toString();
    }

    private static boolean addBytes(EventWaves x, int count, StringBuilder text) {
        for (int i = 0; i < count; i++) {
            try {
                text.append((char) x.write(text.length()));
            } catch (IndexOutOfBoundsException e) {
                return false;
            }
        }
        return true;
    }
}
