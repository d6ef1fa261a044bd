import java.util.LinkedHashMap;
import java.util.Map;
import java.util.function.Supplier;
import java.util.function.ToLongFunction;

/** What calls throw, which of several exceptions, and that a call that throws changes nothing. */
public final class RefusalsTest {
    private static final long TOO_LATE = 1000000001L;
    private static final String CHANGES_NOTHING = "A call that throws changes nothing.";
    private static final int[] NO_SAVES = {-1, 1, 4, Integer.MIN_VALUE, Integer.MAX_VALUE};

    public static void main(String[] args) {
        Due due = new Due("RefusalsTest");
        storiesTellStatesApart(due);
        noSuchNumberChangesNothing(due);
        wrongArgumentChangesNothing(due);
        tooManyChangesNothing(due);
        firstNamedIsThrown(due);
        answersThatChangeNothing(due);
        due.end();
    }

    /** The stories below would show nothing if they were the same for all states. */
    private static void storiesTellStatesApart(Due due) {
        due.says(CHANGES_NOTHING);
        Map<String, ToLongFunction<EventWaves>> calls = new LinkedHashMap<>();
        calls.put("net", EventWaves::net);
        calls.put("gate", x -> x.gate(1, 0, 1, 2));
        calls.put("rise of gate 0", x -> x.delay(0, 2, 1) ? 1 : 0);
        calls.put("fall of gate 0", x -> x.delay(0, 1, 2) ? 1 : 0);
        calls.put("rise of gate 1", x -> x.delay(1, 9, 12) ? 1 : 0);
        calls.put("fall of gate 1", x -> x.delay(1, 10, 9) ? 1 : 0);
        calls.put("spike", x -> x.spike(0) ? 1 : 0);
        calls.put("drive", x -> x.drive(1, 60, 3));
        calls.put("force", x -> x.force(1, 60, 2));
        calls.put("release", x -> x.release(1, 60));
        calls.put("check", x -> x.check(0, 0, 0, 1));
        calls.put("run", x -> x.run(34));
        calls.put("unit", x -> x.unit(32) && x.unit('#') ? 1 : 0);
        calls.put("read", EventWaves::read);
        calls.put("save", EventWaves::save);
        calls.put("back", x -> x.back(0) ? 1 : 0);
        String same = Story.of(States::busy);
        due.is("the same state, the same story", Story.of(States::busy), same);
        calls.forEach((what, call) -> {
            String story = Story.of(() -> {
                EventWaves x = States.busy();
                call.applyAsLong(x);
                return x;
            });
            due.is("a story after " + what + " is another one", story.equals(same), false);
        });
    }

    private static void changesNothing(Due due, Class<? extends RuntimeException> want,
            Supplier<EventWaves> maker, Map<String, ToLongFunction<EventWaves>> calls) {
        EventWaves x = maker.get();
        calls.forEach((what, call) -> due.refuses(what, want, () -> call.applyAsLong(x)));
        String after = Story.of(() -> afterRefusals(maker.get(), calls));
        due.is("the story after all of these", after, Story.of(maker));
    }

    private static EventWaves afterRefusals(EventWaves x, Map<String, ToLongFunction<EventWaves>> calls) {
        for (ToLongFunction<EventWaves> call : calls.values()) {
            try {
                call.applyAsLong(x);
            } catch (RuntimeException e) {
                continue;
            }
        }
        return x;
    }

    private static void noSuchNumberChangesNothing(Due due) {
        due.says(CHANGES_NOTHING);
        Map<String, ToLongFunction<EventWaves>> calls = new LinkedHashMap<>();
        for (int no : new int[] {-1, 5, Integer.MIN_VALUE, Integer.MAX_VALUE}) {
            calls.put("gate of A " + no, x -> x.gate(5, no, 0, 1));
            calls.put("gate of B " + no, x -> x.gate(5, 0, no, 1));
            calls.put("gate of OUT " + no, x -> x.gate(5, 0, 1, no));
            calls.put("delay of " + no, x -> x.delay(no, 3, 4) ? 1 : 0);
            calls.put("drive of " + no, x -> x.drive(no, 50, 1));
            calls.put("force of " + no, x -> x.force(no, 50, 1));
            calls.put("release of " + no, x -> x.release(no, 50));
            calls.put("check of clock " + no, x -> x.check(0, no, 1, 5));
            calls.put("check of data " + no, x -> x.check(0, 1, no, 5));
            calls.put("broken of " + no, x -> x.broken(no));
            calls.put("at of " + no, x -> x.at(no, 1));
            calls.put("value of " + no, x -> x.value(no));
            calls.put("counted of " + no, x -> x.counted(no));
            calls.put("what of " + no, x -> x.change(0, no));
        }
        for (int no : new int[] {-1, 100000, Integer.MIN_VALUE, Integer.MAX_VALUE}) {
            calls.put("change " + no, x -> x.change(no, 3));
            calls.put("write " + no, x -> x.write(no));
        }
        calls.put("delay of the next gate", x -> x.delay(2, 3, 4) ? 1 : 0);
        calls.put("broken of the next check", x -> x.broken(2));
        changesNothing(due, Due.INDEX, States::busy, calls);
    }

    private static void wrongArgumentChangesNothing(Due due) {
        due.says(CHANGES_NOTHING);
        Map<String, ToLongFunction<EventWaves>> calls = new LinkedHashMap<>();
        for (int wrong : new int[] {-1, 1001, Integer.MIN_VALUE, Integer.MAX_VALUE}) {
            calls.put("kind of gate " + wrong, x -> x.gate(wrong, 0, 1, 2));
            calls.put("rise " + wrong, x -> x.delay(1, wrong, 5) ? 1 : 0);
            calls.put("fall " + wrong, x -> x.delay(1, 5, wrong) ? 1 : 0);
            calls.put("rule " + wrong, x -> x.spike(wrong) ? 1 : 0);
            calls.put("drive to " + wrong, x -> x.drive(1, 50, wrong));
            calls.put("force to " + wrong, x -> x.force(1, 50, wrong));
            calls.put("kind of check " + wrong, x -> x.check(wrong, 0, 1, 5));
            calls.put("limit " + wrong, x -> x.check(0, 0, 1, wrong));
        }
        for (long wrong : new long[] {-1, 32, TOO_LATE, Long.MIN_VALUE, Long.MAX_VALUE}) {
            calls.put("drive at " + wrong, x -> x.drive(1, wrong, 1));
            calls.put("force at " + wrong, x -> x.force(1, wrong, 1));
            calls.put("release at " + wrong, x -> x.release(4, wrong));
            calls.put("run to " + wrong, x -> x.run(wrong));
        }
        for (long wrong : new long[] {-1, 34, Long.MIN_VALUE, Long.MAX_VALUE}) {
            calls.put("at " + wrong, x -> x.at(0, wrong));
        }
        changesNothing(due, Due.ARGUMENT, States::busy, calls);
    }

    private static void tooManyChangesNothing(Due due) {
        due.says(CHANGES_NOTHING);
        Map<String, ToLongFunction<EventWaves>> calls = new LinkedHashMap<>();
        calls.put("net", EventWaves::net);
        calls.put("gate", x -> x.gate(5, 0, 1, 2));
        calls.put("drive", x -> x.drive(0, 50, 1));
        calls.put("force", x -> x.force(0, 50, 1));
        calls.put("release", x -> x.release(0, 50));
        calls.put("check", x -> x.check(0, 0, 1, 5));
        calls.put("read", EventWaves::read);
        calls.put("save", EventWaves::save);
        changesNothing(due, Due.STATE, States::full, calls);
    }

    private static void firstNamedIsThrown(Due due) {
        due.says("Methods throw what their comments name, the one named first when several would do.");
        EventWaves x = States.full();
        due.refuses("gate: net, too many, kind", Due.INDEX, () -> x.gate(8, 24, 0, 0));
        due.refuses("gate: B, too many, kind", Due.INDEX, () -> x.gate(8, 0, 24, 0));
        due.refuses("gate: OUT, too many, kind", Due.INDEX, () -> x.gate(8, 0, 0, 24));
        due.refuses("gate: too many, kind", Due.STATE, () -> x.gate(8, 0, 0, 0));
        due.refuses("delay: gate, rise, fall", Due.INDEX, () -> x.delay(32, -1, 1001) ? 1 : 0);
        due.refuses("drive: net, too many, time, value", Due.INDEX, () -> x.drive(24, 0, 4));
        due.refuses("drive: too many, time, value", Due.STATE, () -> x.drive(0, 0, 4));
        due.refuses("force: net, too many, time, value", Due.INDEX, () -> x.force(-1, TOO_LATE, -1));
        due.refuses("force: too many, time, value", Due.STATE, () -> x.force(0, TOO_LATE, -1));
        due.refuses("release: net, too many, time", Due.INDEX, () -> x.release(24, 0));
        due.refuses("release: too many, time", Due.STATE, () -> x.release(0, 0));
        due.refuses("check: clock, too many, kind, limit", Due.INDEX, () -> x.check(2, 24, 0, -1));
        due.refuses("check: data, too many, kind, limit", Due.INDEX, () -> x.check(2, 0, 24, -1));
        due.refuses("check: too many, kind", Due.STATE, () -> x.check(2, 0, 0, 5));
        due.refuses("check: too many, limit", Due.STATE, () -> x.check(0, 0, 0, 1001));
        due.refuses("at: net, time", Due.INDEX, () -> x.at(24, -1));
        EventWaves y = States.busy();
        due.refuses("gate: net, kind", Due.INDEX, () -> y.gate(-1, 0, 5, 0));
        due.refuses("drive: net, value", Due.INDEX, () -> y.drive(5, 50, 4));
        due.refuses("force: net, time", Due.INDEX, () -> y.force(5, 32, 1));
        due.refuses("release: net, time", Due.INDEX, () -> y.release(5, 32));
        due.refuses("check: net, kind", Due.INDEX, () -> y.check(2, 5, 0, 5));
        due.refuses("check: net, limit", Due.INDEX, () -> y.check(0, 0, 5, 1001));
    }

    /** Calls that tell by their answer that they did nothing. */
    private static void answersThatChangeNothing(Due due) {
        due.says("whether there is such a number");
        String same = Story.of(States::busy);
        EventWaves x = States.busy();
        for (int no : NO_SAVES) {
            due.is("back to " + no, x.back(no), false);
        }
        due.is("the story after it", Story.of(RefusalsTest::afterBacks), same);
        due.says("whether it is another one");
        EventWaves y = States.busy();
        due.is("the same rule", y.spike(1), false);
        due.is("the same delays", y.delay(1, 10, 12), false);
        due.is("the story after it", Story.of(RefusalsTest::afterTheSame), same);
    }

    private static EventWaves afterBacks() {
        EventWaves x = States.busy();
        for (int no : NO_SAVES) {
            x.back(no);
        }
        return x;
    }

    private static EventWaves afterTheSame() {
        EventWaves x = States.busy();
        x.spike(1);
        x.delay(1, 10, 12);
        return x;
    }
}
