/** The example of README.md: each call with the answer that stands behind it there. */
public final class ReadmeTest {
    public static void main(String[] args) {
        Due due = new Due("ReadmeTest");
        circuit(due);
        text(due);
        states(due);
        registers(due);
        due.end();
    }

    private static EventWaves and() {
        EventWaves x = new EventWaves();
        int a = x.net();
        int b = x.net();
        int q = x.net();
        int and = x.gate(2, a, b, q);
        x.delay(and, 3, 2);
        x.drive(a, 5, 1);
        x.drive(b, 5, 1);
        return x;
    }

    private static void circuit(Due due) {
        EventWaves x = and();
        due.is("run", x.run(20), 3);
        due.is("value", x.value(2), 1);
        due.is("at 7", x.at(2, 7), 2);
        due.is("at 8", x.at(2, 8), 1);
        due.is("now", x.now(), 20);
        due.is("counted", x.counted(2), 1);
        due.is("the time of change 2", x.change(2, 0), 8);
        due.is("its net", x.change(2, 1), 2);
        due.is("its value", x.change(2, 2), 1);
        due.is("changes", x.change(0, 3), 3);
        due.refuses("no net 3", Due.INDEX, () -> x.value(3));
    }

    private static void text(Due due) {
        EventWaves x = and();
        x.run(20);
        due.is("write", Due.textOf(x), "#5\n1!\n1\"\n#8\n1#\n");
        Due.put(x, "#30 0! #40 1!");
        due.is("read", x.read(), 2);
        due.is("run", x.run(50), 4);
        Due.put(x, "#60 0! #70 1?");
        due.is("a fault", x.read(), -12);
    }

    private static void states(Due due) {
        EventWaves x = and();
        x.run(20);
        due.is("save", x.save(), 0);
        x.force(2, 25, 0);
        x.run(30);
        due.is("forced", x.value(2), 0);
        due.is("back", x.back(0), true);
        due.is("as before", x.value(2), 1);
        due.is("now", x.now(), 20);
        due.is("no such number", x.back(1), false);
    }

    private static void registers(Due due) {
        EventWaves x = Due.withNets(3);
        x.gate(7, 0, 1, 2);
        due.is("check", x.check(0, 1, 0, 4), 0);
        x.drive(1, 10, 0);
        x.drive(0, 17, 1);
        x.drive(1, 20, 1);
        x.run(30);
        due.is("broken", x.broken(0), 1);
        due.is("the register's net", x.value(2), 2);
    }
}
