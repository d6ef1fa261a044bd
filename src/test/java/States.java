/** States of an object that tests begin with. */
final class States {
    private States() {
    }

    static EventWaves busy() {
        EventWaves x = new EventWaves();
        busyOn(x);
        Due.put(x, "#80 1! 0\" #85 x$");
        return x;
    }

    /** Nets 0 to 4, gates and checks, with hand events and gates' values that wait, one of them with one behind. */
    static void busyOn(EventWaves x) {
        addNets(x, 5);
        x.gate(7, 0, 1, 2);
        x.gate(0, 0, 0, 3);
        x.delay(1, 10, 12);
        x.check(0, 1, 0, 5);
        x.check(1, 1, 0, 5);
        x.drive(0, 10, 0);
        x.drive(1, 10, 0);
        x.save();
        x.spike(1);
        x.drive(0, 28, 1);
        x.drive(1, 29, 1);
        x.drive(0, 31, 0);
        x.force(4, 31, 1);
        x.drive(4, 31, 0);
        x.release(4, 40);
        x.drive(0, 41, 1);
        x.run(33);
    }

    /** Other nets, gates and checks under the numbers of a busy object, in another state each. */
    static void otherOn(EventWaves x) {
        addNets(x, 6);
        x.gate(5, 3, 4, 0);
        x.gate(1, 5, 5, 1);
        x.delay(0, 3, 4);
        x.delay(1, 2, 2);
        x.check(1, 5, 4, 900);
        x.check(0, 5, 4, 900);
        for (int i = 0; i < 40; i++) {
            x.drive(i % 6, 3 + i, (i / 6 + i) % 4);
        }
        x.force(4, 29, 2);
        x.force(2, 30, 1);
        x.run(30);
    }

    /** As many of all as there can be, and a tape that tells one hand event more. */
    static EventWaves full() {
        EventWaves x = new EventWaves();
        addNets(x, 24);
        for (int i = 0; i < 32; i++) {
            x.gate(i % 8, i % 24, i * 7 % 24, i * 5 % 24);
            x.delay(i, i % 4, i % 5);
        }
        for (int i = 0; i < 20; i++) {
            x.check(i % 2, i, i + 3, i);
        }
        for (int i = 0; i < 4; i++) {
            x.drive(i, i, 1);
            x.run(i);
            x.save();
        }
        for (int i = 0; i < 100; i++) {
            x.drive(i % 24, 5 + i, i / 24 % 2);
        }
        Due.put(x, "#200 1!");
        return x;
    }

    private static void addNets(EventWaves x, int count) {
        for (int i = 0; i < count; i++) {
            x.net();
        }
    }
}
