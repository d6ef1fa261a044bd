/**
 * The room on the tape, promise 17. To fill the tape takes more than the 512 calls that the document promises answers
 * to: a test of its own, so that all others can keep to them.
 */
public final class FullTapeTest {
    public static void main(String[] args) {
        Due due = new Due("FullTapeTest");
        due.says("One byte more on the tape (its lowest eight bits): whether there was room (for 2000).");
        EventWaves x = Due.withNets(1);
        putBlanks(due, x, 1995);
        for (char c : "#5 1!".toCharArray()) {
            due.is("room for the last ones", x.unit(c), true);
        }
        due.is("no room", x.unit('?'), false);
        due.is("no room yet", x.unit(' '), false);
        due.is("what had no room is not there", x.read(), 1);
        putBlanks(due, x, 1999);
        due.is("room for the last one", x.unit('?'), true);
        due.is("no room again", x.unit('?'), false);
        due.is("a fault at the last place", x.read(), -2000);
        due.is("room again", x.unit('?'), true);
        due.end();
    }

    private static void putBlanks(Due due, EventWaves x, int count) {
        for (int i = 0; i < count; i++) {
            due.is("room", x.unit(' '), true);
        }
    }
}
