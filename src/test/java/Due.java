/** Compares answers with those that are due and counts the wrong ones. */
final class Due {
    static final Class<? extends RuntimeException> INDEX = IndexOutOfBoundsException.class;
    static final Class<? extends RuntimeException> STATE = IllegalStateException.class;
    static final Class<? extends RuntimeException> ARGUMENT = IllegalArgumentException.class;

    interface Call {
        long answer();
    }

    private final String name;
    private String sentence = "";
    private int looked;
    private int wrong;

    Due(String name) {
        this.name = name;
    }

    /** The sentence of the document that the answers from here on are about. */
    void says(String words) {
        sentence = "[" + words + "] ";
    }

    void is(String what, long got, long want) {
        looked++;
        if (got != want) {
            tellWrong(what + " answered " + got + ", due is " + want);
        }
    }

    void is(String what, boolean got, boolean want) {
        is(what, got ? 1 : 0, want ? 1 : 0);
    }

    void is(String what, String got, String want) {
        looked++;
        if (!got.equals(want)) {
            tellWrong(what + " is '" + got + "', due is '" + want + "'");
        }
    }

    void refuses(String what, Class<? extends RuntimeException> want, Call call) {
        looked++;
        String got;
        try {
            got = "answered " + call.answer();
        } catch (RuntimeException e) {
            if (e.getClass() == want) {
                return;
            }
            got = "threw " + e;
        }
        tellWrong(what + " " + got + ", due is " + want.getSimpleName());
    }

    private void tellWrong(String text) {
        wrong++;
        System.out.println(sentence + text);
    }

    /** Ends the program with exit code 1 if an answer was wrong. */
    void end() {
        System.out.println(name + ": " + looked + " answers, " + wrong + " of them wrong");
        if (wrong != 0) {
            System.exit(1);
        }
    }

    static EventWaves withNets(int count) {
        EventWaves x = new EventWaves();
        for (int i = 0; i < count; i++) {
            x.net();
        }
        return x;
    }

    static void put(EventWaves x, String text) {
        for (int i = 0; i < text.length(); i++) {
            x.unit(text.charAt(i));
        }
    }

    static String textOf(EventWaves x) {
        StringBuilder text = new StringBuilder();
        for (int i = 0; i < 100000; i++) {
            try {
                text.append((char) x.write(i));
            } catch (IndexOutOfBoundsException e) {
                return text.toString();
            }
        }
        return text.toString();
    }
}
