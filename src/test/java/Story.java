/** What an object answers to one long row of calls: two objects in the same state tell the same story. */
final class Story {
    private static final int NETS = 24;
    private static final int CHECKS = 20;

    private final EventWaves x;
    private final StringBuilder text = new StringBuilder();

    private Story(EventWaves x) {
        this.x = x;
    }

    /** The calls change the object: it is of no use behind them. */
    static String of(EventWaves x) {
        Story story = new Story(x);
        story.see();
        story.rule();
        story.comeAlong(40, 1);
        story.tape();
        story.comeAlong(20, 1);
        story.pushNets();
        story.numbers();
        story.goBack();
        return story.text.toString();
    }

    private void tell(String what, Due.Call call) {
        text.append(what).append(' ').append(answer(call)).append('\n');
    }

    private static String answer(Due.Call call) {
        try {
            return Long.toString(call.answer());
        } catch (RuntimeException e) {
            return e.getClass().getSimpleName();
        }
    }

    private void see() {
        tell("now", x::now);
        tell("levels", x::levels);
        for (int i = 0; i < NETS; i++) {
            int net = i;
            tell("value", () -> x.value(net));
            tell("counted", () -> x.counted(net));
        }
        for (int i = 0; i < CHECKS; i++) {
            int check = i;
            tell("broken", () -> x.broken(check));
        }
        text.append(Due.textOf(x));
    }

    private void rule() {
        boolean wasZero = x.spike(1);
        text.append("rule ").append(wasZero ? 0 : 1).append('\n');
        if (wasZero) {
            x.spike(0);
        }
    }

    private void comeAlong(int steps, int length) {
        for (int i = 0; i < steps; i++) {
            long until = x.now() + length;
            tell("run", () -> x.run(until));
        }
        see();
    }

    private void tape() {
        tell("read", x::read);
        tell("read again", x::read);
    }

    private void numbers() {
        tell("net", x::net);
        tell("gate", () -> x.gate(0, 0, 0, 0));
        tell("check", () -> x.check(0, 0, 0, 9));
        tell("drive", () -> x.drive(0, x.now(), 1));
        tell("save", x::save);
    }

    /** The nets go to 0 and 1 far from one another, so that gates show their delays and registers take both. */
    private void pushNets() {
        for (int turn = 0; turn < 6; turn++) {
            for (int i = 0; i < NETS; i++) {
                int net = i;
                int v = i % 2 == 0 ? turn / 2 % 2 : turn % 2;
                long time = x.now() + 3 + 7 * i;
                tell("drive", () -> x.drive(net, time, v));
            }
            comeAlong(50, 4);
        }
    }

    private void goBack() {
        for (int i = 0; i < 4; i++) {
            int saved = i;
            tell("back", () -> x.back(saved) ? 1 : 0);
            see();
            comeAlong(5, 1);
        }
    }
}
