import java.util.Arrays;
import java.util.Map;
import java.util.WeakHashMap;

/** Counts each object's calls: the copy of the class that CallLimitTest makes tells of every one. */
public final class Calls {
    private static final Map<Object, int[]> COUNTS = new WeakHashMap<>();
    private static String beyond = "";

    private Calls() {
    }

    public static void count(Object x) {
        int[] calls = COUNTS.computeIfAbsent(x, key -> new int[1]);
        calls[0]++;
        if (calls[0] > Due.MOST_CALLS && beyond.isEmpty()) {
            beyond = Arrays.toString(new Throwable().getStackTrace());
        }
    }

    /** Where the first call beyond the limit was made. */
    public static String beyond() {
        return beyond;
    }
}
