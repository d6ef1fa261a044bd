import java.util.function.Supplier;

/**
 * What objects of one state answer to many calls: two states are the same only if their stories are. Each chapter is
 * told by objects that are made anew, as one object is used for 512 calls at most.
 */
final class Story {
    private static final int NETS = 24;
    private static final int CHECKS = 20;

    /** Calls that bring an object on its way; what it answers is told. */
    private interface Way {
        void go(EventWaves x, StringBuilder told);
    }

    private final Supplier<EventWaves> maker;
    private final StringBuilder text = new StringBuilder();

    private Story(Supplier<EventWaves> maker) {
        this.maker = maker;
    }

    static String of(Supplier<EventWaves> maker) {
        Story story = new Story(maker);
        story.chapter((x, told) -> { });
        story.chapter(Story::rule);
        story.chapter((x, told) -> comeAlong(x, 60, 1, told));
        story.chapter(Story::tape);
        story.chapter(Story::numbers);
        for (int i = 0; i < 6; i++) {
            int turns = i;
            story.chapter((x, told) -> pushNets(x, turns, told));
        }
        for (int i = 0; i < 4; i++) {
            int saved = i;
            story.chapter((x, told) -> goBack(x, saved, told));
        }
        return story.text.toString();
    }

    private void chapter(Way way) {
        EventWaves x = maker.get();
        way.go(x, text);
        see(x, text);
        text.append(Due.textOf(() -> {
            EventWaves again = maker.get();
            way.go(again, new StringBuilder());
            return again;
        }));
    }

    private static void tell(StringBuilder told, String what, Due.Call call) {
        told.append(what).append(' ').append(answer(call)).append('\n');
    }

    private static String answer(Due.Call call) {
        try {
            return Long.toString(call.answer());
        } catch (RuntimeException e) {
            return e.getClass().getSimpleName();
        }
    }

    private static void see(EventWaves x, StringBuilder told) {
        tell(told, "now", x::now);
        tell(told, "levels", x::levels);
        for (int i = 0; i < NETS; i++) {
            int net = i;
            tell(told, "value", () -> x.value(net));
            tell(told, "counted", () -> x.counted(net));
        }
        for (int i = 0; i < CHECKS; i++) {
            int check = i;
            tell(told, "broken", () -> x.broken(check));
        }
    }

    private static void rule(EventWaves x, StringBuilder told) {
        tell(told, "rule 1 is another one", () -> x.spike(1) ? 1 : 0);
    }

    private static void comeAlong(EventWaves x, int steps, int length, StringBuilder told) {
        long from = x.now();
        for (int i = 1; i <= steps; i++) {
            long until = from + (long) length * i;
            tell(told, "run", () -> x.run(until));
        }
    }

    private static void tape(EventWaves x, StringBuilder told) {
        tell(told, "read", x::read);
        tell(told, "read again", x::read);
        comeAlong(x, 60, 1, told);
    }

    private static void numbers(EventWaves x, StringBuilder told) {
        tell(told, "net", x::net);
        tell(told, "gate", () -> x.gate(0, 0, 0, 0));
        tell(told, "check", () -> x.check(0, 0, 0, 9));
        tell(told, "drive", () -> x.drive(0, x.now(), 1));
        tell(told, "save", x::save);
    }

    /** The nets go to 0 and 1 far from one another, so that gates show their delays and registers take both. */
    private static void pushNets(EventWaves x, int turnsBefore, StringBuilder told) {
        comeAlong(x, 2, 60, told);
        for (int turn = 0; turn < turnsBefore; turn++) {
            driveNets(x, turn, told);
            comeAlong(x, 1, 200, told);
        }
        driveNets(x, turnsBefore, told);
        comeAlong(x, 40, 5, told);
    }

    private static void driveNets(EventWaves x, int turn, StringBuilder told) {
        long from = x.now();
        for (int i = 0; i < NETS; i++) {
            int net = i;
            int v = i % 2 == 0 ? turn / 2 % 2 : turn % 2;
            long time = from + 3 + 7 * i;
            tell(told, "drive", () -> x.drive(net, time, v));
        }
    }

    private static void goBack(EventWaves x, int saved, StringBuilder told) {
        tell(told, "back", () -> x.back(saved) ? 1 : 0);
        see(x, told);
        comeAlong(x, 5, 1, told);
    }
}
