import java.util.Random;

/** Long runs of mixed calls, right and wrong ones, on the class and on the model: every answer must be the same. */
public final class ModelTest {
    private static final int RUNS = 4000;
    private static final int LAST_LOOKS = 90;
    private static final String TAPE_BYTES = "##0011xxzz!!\"\"#$ \n\t\r123456789?";

    private final Random random;
    private final Due due;
    private final EventWaves x = new EventWaves();
    private final Model model = new Model();
    private final int netAim;
    private final int gateAim;
    private final int longest;
    private final boolean wild;
    private int netCount;
    private int gateCount;
    private int calls;

    private ModelTest(Due due, long seed) {
        this.due = due;
        random = new Random(seed);
        netAim = 1 + random.nextInt(random.nextInt(4) == 0 ? 24 : 6);
        gateAim = random.nextInt(random.nextInt(4) == 0 ? 33 : 8);
        longest = new int[] {1, 3, 12, 1000}[random.nextInt(4)];
        wild = random.nextInt(3) == 0;
    }

    public static void main(String[] args) {
        Due due = new Due("ModelTest");
        for (int run = 0; run < RUNS; run++) {
            due.says("run " + run);
            new ModelTest(due, run).go();
        }
        due.end();
    }

    private void go() {
        for (int i = 0; i < netAim; i++) {
            both("net", x::net, model::net);
        }
        netCount = netAim;
        for (int i = 0; i < gateAim; i++) {
            addGate();
        }
        while (calls < Due.MOST_CALLS - LAST_LOOKS) {
            step();
        }
        lookAtTheEnd();
    }

    private void lookAtTheEnd() {
        for (int n = 0; n < netCount; n++) {
            int net = n;
            both("value " + n, () -> x.value(net), () -> model.value(net));
            both("counted " + n, () -> x.counted(net), () -> model.counted(net));
        }
        int length = model.text().length();
        for (int n = 0; n < 20; n++) {
            int i = n < 8 ? length + 1 - n : random.nextInt(length + 1);
            both("write " + i, () -> x.write(i), () -> model.write(i));
        }
    }

    /** Leaves out what would go beyond the calls that the document promises answers to. */
    private void both(String what, Due.Call mine, Due.Call wanted) {
        if (calls < Due.MOST_CALLS) {
            calls++;
            due.is(what, outcome(mine), outcome(wanted));
        }
    }

    private static String outcome(Due.Call call) {
        try {
            return Long.toString(call.answer());
        } catch (RuntimeException e) {
            return e.getClass().getSimpleName();
        }
    }

    private boolean odd() {
        return random.nextInt(wild ? 12 : 200) == 0;
    }

    private int anyNet() {
        return odd() ? random.nextInt(30) - 3 : random.nextInt(netAim);
    }

    private int anyLength() {
        return odd() ? random.nextInt(1200) - 100 : random.nextInt(longest + 1);
    }

    private int anyValue() {
        int v = random.nextInt(10);
        return odd() ? random.nextInt(9) - 3 : v < 4 ? 0 : v < 8 ? 1 : v - 6;
    }

    private long anyTime() {
        if (odd()) {
            return random.nextBoolean() ? random.nextLong() : 999999999L + random.nextInt(4);
        }
        return model.now() + random.nextInt(longest + 2) - (odd() ? 2 : 0);
    }

    private void addGate() {
        int kind = odd() ? random.nextInt(20) - 5 : random.nextInt(8);
        int a = anyNet();
        int b = anyNet();
        int out = anyNet();
        both("gate", () -> x.gate(kind, a, b, out), () -> model.gate(kind, a, b, out));
        gateCount++;
        setDelay(gateCount - 1);
    }

    private void setDelay(int gate) {
        int rise = anyLength();
        int fall = anyLength();
        both("delay", () -> x.delay(gate, rise, fall) ? 1 : 0, () -> model.delay(gate, rise, fall) ? 1 : 0);
    }

    private void step() {
        int call = random.nextInt(100);
        if (call < 28) {
            tell();
        } else if (call < 50) {
            run();
        } else if (call < 60) {
            build();
        } else if (call < 90) {
            look();
        } else if (call < 97) {
            useTape();
        } else {
            remember();
        }
    }

    private void tell() {
        int net = anyNet();
        long time = anyTime();
        int v = anyValue();
        switch (random.nextInt(8)) {
            case 0 -> both("force", () -> x.force(net, time, v), () -> model.tell(1, net, time, v));
            case 1 -> both("release", () -> x.release(net, time), () -> model.tell(2, net, time, v));
            default -> both("drive", () -> x.drive(net, time, v), () -> model.tell(0, net, time, v));
        }
    }

    private void run() {
        long until = anyTime();
        // A run to the far end would leave nothing for the calls behind it.
        if (until < model.now() + 2000 || random.nextInt(40) == 0) {
            both("run " + until, () -> x.run(until), () -> model.run(until));
        }
        both("now", x::now, model::now);
        both("levels", x::levels, model::levels);
    }

    private void build() {
        int net = anyNet();
        int other = anyNet();
        switch (random.nextInt(8)) {
            case 0 -> both("net", x::net, () -> {
                int n = model.net();
                netCount = n + 1;
                return n;
            });
            case 1, 2 -> addGate();
            case 3, 4 -> setDelay(odd() ? random.nextInt(50) - 9 : random.nextInt(gateCount + 1));
            case 5 -> {
                int rule = odd() ? random.nextInt(5) - 2 : random.nextInt(2);
                both("spike", () -> x.spike(rule) ? 1 : 0, () -> model.spike(rule) ? 1 : 0);
            }
            default -> {
                int kind = odd() ? random.nextInt(5) - 2 : random.nextInt(2);
                int limit = anyLength();
                both("check", () -> x.check(kind, net, other, limit), () -> model.check(kind, net, other, limit));
            }
        }
    }

    private void look() {
        int net = anyNet();
        int k = odd() ? random.nextInt(700) - 20 : random.nextInt(1 + model.change(0, 3));
        switch (random.nextInt(6)) {
            case 0 -> both("value", () -> x.value(net), () -> model.value(net));
            case 1 -> both("counted", () -> x.counted(net), () -> model.counted(net));
            case 2 -> {
                long time = model.now() - random.nextInt(40) + (odd() ? 20 : 0);
                both("at", () -> x.at(net, time), () -> model.at(net, time));
            }
            case 3 -> {
                int what = odd() ? random.nextInt(9) - 3 : random.nextInt(4);
                both("change", () -> x.change(k, what), () -> model.change(k, what));
            }
            case 4 -> {
                int check = random.nextInt(odd() ? 40 : 4) - (odd() ? 2 : 0);
                both("broken", () -> x.broken(check), () -> model.broken(check));
            }
            default -> {
                int i = k * 3 + random.nextInt(9) - 2;
                both("write", () -> x.write(i), () -> model.write(i));
            }
        }
    }

    private void useTape() {
        StringBuilder text = new StringBuilder();
        if (random.nextInt(3) == 0) {
            for (int i = random.nextInt(8); i > 0; i--) {
                text.append(TAPE_BYTES.charAt(random.nextInt(TAPE_BYTES.length())));
            }
        } else {
            text.append('#').append(anyTime());
            for (int i = random.nextInt(6); i > 0; i--) {
                text.append(" \n".charAt(random.nextInt(2))).append("01xz".charAt(random.nextInt(4))).append((char) (33 + anyNet()));
            }
        }
        for (int i = 0; i < text.length(); i++) {
            int u = text.charAt(i) + 256 * random.nextInt();
            both("unit", () -> x.unit(u) ? 1 : 0, () -> model.unit(u) ? 1 : 0);
        }
        if (random.nextInt(6) != 0) {
            both("read of " + text, x::read, model::read);
        }
    }

    private void remember() {
        int saved = odd() ? random.nextInt() : random.nextInt(5) - (odd() ? 3 : 0);
        if (random.nextInt(3) == 0) {
            both("save", x::save, model::save);
        } else {
            both("back", () -> x.back(saved) ? 1 : 0, () -> model.back(saved) ? 1 : 0);
        }
    }
}
