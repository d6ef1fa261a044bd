/** Gates with delays, simulated by events. */
public final class EventWaves {
    public static final int NONE = -1;

    private static final int UNKNOWN = 2;
    private static final int OPEN = 3;

    private static final int NOT = 1;
    private static final int AND = 2;
    private static final int OR = 3;
    private static final int XOR = 4;
    private static final int GATED = 5;
    private static final int LATCH = 6;
    private static final int REGISTER = 7;

    private static final int VANISH = 0;
    private static final int BLUR = 1;

    private static final int SET_UP = 0;
    private static final int HOLD = 1;

    private static final int TO_DRIVE = 0;
    private static final int TO_FORCE = 1;
    private static final int TO_RELEASE = 2;

    private static final int MOST_NETS = 24;
    private static final int MOST_GATES = 32;
    private static final int MOST_CHECKS = 20;
    private static final int MOST_HANDS = 100;
    private static final int MOST_KEPT = 600;
    private static final int MOST_SAVED = 4;
    private static final int MOST_BYTES = 2000;
    private static final int MOST_EVENTS = 150;
    private static final int MOST_GATE_EVENTS = 60;
    private static final int LONGEST = 1000;
    private static final long LAST_TIME = 1000000000L;
    private static final long NEVER = -1L;

    private static final int LINE_END = 10;
    private static final int HASH = '#';
    private static final int FIRST_NET_BYTE = 33;
    private static final int LINE_BYTES = 3;
    private static final int[] VALUE_BYTES = {'0', '1', 'x', 'z'};
    private static final int[] POWERS = {
        1, 10, 100, 1000, 10000, 100000, 1000000, 10000000, 100000000, 1000000000
    };

    private final Circuit live = new Circuit();
    private final Circuit[] saves = new Circuit[MOST_SAVED];
    private int saveCount;
    private final Tape tape = new Tape();

    public EventWaves() {
    }

    public int net() throws IllegalStateException {
        if (live.netCount >= MOST_NETS) {
            throw new IllegalStateException("there are as many nets as there can be");
        }
        return live.addNet();
    }

    public int gate(int kind, int a, int b, int out)
            throws IndexOutOfBoundsException, IllegalStateException, IllegalArgumentException {
        requireNet(a);
        requireNet(b);
        requireNet(out);
        if (live.gateCount >= MOST_GATES) {
            throw new IllegalStateException("there are as many gates as there can be");
        }
        if (kind < 0 || kind > REGISTER) {
            throw new IllegalArgumentException("no such kind of gate");
        }
        return live.addGate(kind, a, b, out);
    }

    public boolean delay(int gate, int rise, int fall)
            throws IndexOutOfBoundsException, IllegalArgumentException {
        if (gate < 0 || gate >= live.gateCount) {
            throw new IndexOutOfBoundsException("no such gate");
        }
        if (!isLength(rise) || !isLength(fall)) {
            throw new IllegalArgumentException("a delay is not 0 .. 1000");
        }
        return live.gates[gate].takeDelays(rise, fall);
    }

    public boolean spike(int rule) throws IllegalArgumentException {
        if (rule != VANISH && rule != BLUR) {
            throw new IllegalArgumentException("no such rule");
        }
        boolean other = live.rule != rule;
        live.rule = rule;
        return other;
    }

    public int drive(int net, long time, int v)
            throws IndexOutOfBoundsException, IllegalStateException, IllegalArgumentException {
        return tell(TO_DRIVE, net, time, v);
    }

    public int force(int net, long time, int v)
            throws IndexOutOfBoundsException, IllegalStateException, IllegalArgumentException {
        return tell(TO_FORCE, net, time, v);
    }

    public int release(int net, long time)
            throws IndexOutOfBoundsException, IllegalStateException, IllegalArgumentException {
        return tell(TO_RELEASE, net, time, OPEN);
    }

    public int check(int kind, int clock, int data, int limit)
            throws IndexOutOfBoundsException, IllegalStateException, IllegalArgumentException {
        requireNet(clock);
        requireNet(data);
        if (live.checkCount >= MOST_CHECKS) {
            throw new IllegalStateException("there are as many checks as there can be");
        }
        if (kind != SET_UP && kind != HOLD) {
            throw new IllegalArgumentException("no such kind of check");
        }
        if (!isLength(limit)) {
            throw new IllegalArgumentException("a limit is not 0 .. 1000");
        }
        return live.addCheck(kind, clock, data, limit);
    }

    public int broken(int check) throws IndexOutOfBoundsException {
        if (check < 0 || check >= live.checkCount) {
            throw new IndexOutOfBoundsException("no such check");
        }
        return live.checks[check].breaks;
    }

    public long run(long until) throws IllegalArgumentException {
        if (!live.isToCome(until)) {
            throw new IllegalArgumentException("the time is before now or beyond the last one");
        }
        return live.advance(until);
    }

    public long now() {
        return live.time;
    }

    public int at(int net, long time) throws IndexOutOfBoundsException, IllegalArgumentException {
        requireNet(net);
        if (time < 0 || time > live.time) {
            throw new IllegalArgumentException("the time is below 0 or beyond now");
        }
        return live.waves.latest(net, time);
    }

    public int value(int net) throws IndexOutOfBoundsException {
        requireNet(net);
        return live.nets[net].shown;
    }

    public int change(int k, int what) throws IndexOutOfBoundsException {
        Waves waves = live.waves;
        if (what == 3 && k == 0) {
            return waves.count;
        }
        if (k < 0 || k >= waves.count) {
            throw new IndexOutOfBoundsException("no such change");
        }
        switch (what) {
            case 0:
                return waves.times[k];
            case 1:
                return waves.nets[k];
            case 2:
                return waves.values[k];
            case 3:
                return waves.count;
            default:
                throw new IndexOutOfBoundsException("a change has no such part");
        }
    }

    public long counted(int net) throws IndexOutOfBoundsException {
        requireNet(net);
        return live.nets[net].changes;
    }

    public boolean unit(int u) {
        return tape.append(u & 255);
    }

    public int read() throws IllegalStateException {
        TapeReader reader = new TapeReader(tape, live);
        int fault = reader.pass(false);
        if (fault != NONE) {
            tape.length = 0;
            return -1 - fault;
        }
        if (reader.found > MOST_HANDS - live.hands.count) {
            throw new IllegalStateException("more hand events would wait than there can be");
        }
        reader.pass(true);
        tape.length = 0;
        return reader.found;
    }

    public int write(int i) throws IndexOutOfBoundsException {
        int found = i < 0 ? NONE : live.waves.byteOfText(i);
        if (found == NONE) {
            throw new IndexOutOfBoundsException("the text has no such byte");
        }
        return found;
    }

    public int levels() {
        return live.unsettled();
    }

    public int save() throws IllegalStateException {
        if (saveCount >= MOST_SAVED) {
            throw new IllegalStateException("as much is remembered as can be");
        }
        Circuit copy = new Circuit();
        copy.copyFrom(live);
        saves[saveCount] = copy;
        saveCount++;
        return saveCount - 1;
    }

    public boolean back(int saved) {
        if (saved < 0 || saved >= saveCount) {
            return false;
        }
        Circuit copy = saves[saved];
        if (copy == null) {
            return false;
        }
        live.copyFrom(copy);
        return true;
    }

    private int tell(int act, int net, long time, int v) {
        requireNet(net);
        if (live.hands.count >= MOST_HANDS) {
            throw new IllegalStateException("as many hand events wait as can");
        }
        if (v < 0 || v > OPEN) {
            throw new IllegalArgumentException("no such value");
        }
        if (!live.isToCome(time)) {
            throw new IllegalArgumentException("the time is before now or beyond the last one");
        }
        live.hands.append(act, net, time, v);
        return live.hands.count;
    }

    private void requireNet(int net) {
        if (!live.hasNet(net)) {
            throw new IndexOutOfBoundsException("no such net");
        }
    }

    private static boolean isLength(int length) {
        return length >= 0 && length <= LONGEST;
    }

    private static final class Net {
        int hand;
        int forced;
        int shown;
        long changes;
        long changedAt;
        long roseAt;

        void begin() {
            hand = OPEN;
            forced = NONE;
            shown = UNKNOWN;
            changes = 0;
            changedAt = NEVER;
            roseAt = NEVER;
        }

        void copyFrom(Net other) {
            hand = other.hand;
            forced = other.forced;
            shown = other.shown;
            changes = other.changes;
            changedAt = other.changedAt;
            roseAt = other.roseAt;
        }
    }

    private static final class Gate {
        int kind;
        int a;
        int b;
        int out;
        int rise;
        int fall;
        int has;
        int waiting;
        long due;
        int behind;
        long behindDue;

        void begin(int newKind, int netA, int netB, int netOut) {
            kind = newKind;
            a = netA;
            b = netB;
            out = netOut;
            rise = 1;
            fall = 1;
            has = newKind == GATED ? OPEN : UNKNOWN;
            waiting = NONE;
            behind = NONE;
        }

        void copyFrom(Gate other) {
            kind = other.kind;
            a = other.a;
            b = other.b;
            out = other.out;
            rise = other.rise;
            fall = other.fall;
            has = other.has;
            waiting = other.waiting;
            due = other.due;
            behind = other.behind;
            behindDue = other.behindDue;
        }

        boolean takeDelays(int newRise, int newFall) {
            boolean other = rise != newRise || fall != newFall;
            rise = newRise;
            fall = newFall;
            return other;
        }

        /** A register hears its clock's rise alone, every other gate each change of its nets. */
        boolean hears(int net, boolean rises) {
            return kind == REGISTER ? b == net && rises : a == net || b == net;
        }

        int gives(int valueA, int valueB) {
            int x = valueA == OPEN ? UNKNOWN : valueA;
            int y = valueB == OPEN ? UNKNOWN : valueB;
            switch (kind) {
                case NOT:
                    return x == UNKNOWN ? UNKNOWN : 1 - x;
                case AND:
                    return x == 0 || y == 0 ? 0 : x == 1 && y == 1 ? 1 : UNKNOWN;
                case OR:
                    return x == 1 || y == 1 ? 1 : x == 0 && y == 0 ? 0 : UNKNOWN;
                case XOR:
                    return x == UNKNOWN || y == UNKNOWN ? UNKNOWN : x == y ? 0 : 1;
                case GATED:
                    return y == 1 ? x : y == 0 ? OPEN : UNKNOWN;
                case LATCH:
                    return y == 1 ? x : y == 0 || has == x ? has : UNKNOWN;
                default:
                    return x;
            }
        }

        int delayTo(int v) {
            switch (v) {
                case 0:
                    return fall;
                case 1:
                    return rise;
                case UNKNOWN:
                    return Math.min(rise, fall);
                default:
                    return Math.max(rise, fall);
            }
        }

        void ask(int v, long time, int rule) {
            if (v == waiting) {
                behind = NONE;
                return;
            }
            long end = time + delayTo(v);
            if (waiting != NONE && rule == BLUR) {
                waiting = UNKNOWN;
                behind = v;
                behindDue = Math.max(due, end);
                return;
            }
            waiting = v == has ? NONE : v;
            due = end;
            behind = NONE;
        }

        void takeWaiting() {
            has = waiting;
            waiting = behind == has ? NONE : behind;
            due = behindDue;
            behind = NONE;
        }
    }

    private static final class Check {
        int kind;
        int clock;
        int data;
        int limit;
        int breaks;

        void begin(int newKind, int clockNet, int dataNet, int newLimit) {
            kind = newKind;
            clock = clockNet;
            data = dataNet;
            limit = newLimit;
            breaks = 0;
        }

        void copyFrom(Check other) {
            kind = other.kind;
            clock = other.clock;
            data = other.data;
            limit = other.limit;
            breaks = other.breaks;
        }

        boolean isWithin(long earlier, long time) {
            return earlier != NEVER && time - earlier < limit;
        }
    }

    /** The hand events that wait, in the order in which they were told. */
    private static final class Hands {
        int count;
        final int[] acts = new int[MOST_HANDS];
        final int[] nets = new int[MOST_HANDS];
        final long[] times = new long[MOST_HANDS];
        final int[] values = new int[MOST_HANDS];

        void copyFrom(Hands other) {
            count = other.count;
            System.arraycopy(other.acts, 0, acts, 0, MOST_HANDS);
            System.arraycopy(other.nets, 0, nets, 0, MOST_HANDS);
            System.arraycopy(other.times, 0, times, 0, MOST_HANDS);
            System.arraycopy(other.values, 0, values, 0, MOST_HANDS);
        }

        void append(int act, int net, long time, int v) {
            if (count >= MOST_HANDS) {
                return;
            }
            acts[count] = act;
            nets[count] = net;
            times[count] = time;
            values[count] = v;
            count++;
        }

        int first() {
            int best = count > 0 ? 0 : NONE;
            for (int i = 1; i < count; i++) {
                if (times[i] < times[best] || times[i] == times[best] && nets[i] < nets[best]) {
                    best = i;
                }
            }
            return best;
        }

        void drop(int place) {
            for (int i = place + 1; i < count; i++) {
                acts[i - 1] = acts[i];
                nets[i - 1] = nets[i];
                times[i - 1] = times[i];
                values[i - 1] = values[i];
            }
            count--;
        }
    }

    /** The changes that are kept, in the order in which they came. */
    private static final class Waves {
        int count;
        final int[] times = new int[MOST_KEPT];
        final int[] nets = new int[MOST_KEPT];
        final int[] values = new int[MOST_KEPT];

        void copyFrom(Waves other) {
            count = other.count;
            System.arraycopy(other.times, 0, times, 0, MOST_KEPT);
            System.arraycopy(other.nets, 0, nets, 0, MOST_KEPT);
            System.arraycopy(other.values, 0, values, 0, MOST_KEPT);
        }

        void keep(long time, int net, int v) {
            if (count >= MOST_KEPT) {
                return;
            }
            times[count] = (int) time;
            nets[count] = net;
            values[count] = v;
            count++;
        }

        int latest(int net, long time) {
            for (int k = count - 1; k >= 0; k--) {
                if (nets[k] == net && times[k] <= time) {
                    return values[k];
                }
            }
            return UNKNOWN;
        }

        int byteOfText(int i) {
            int left = i;
            for (int k = 0; k < count; k++) {
                if (k == 0 || times[k] != times[k - 1]) {
                    int digits = digitsOf(times[k]);
                    if (left < digits + 2) {
                        return headByte(times[k], digits, left);
                    }
                    left -= digits + 2;
                }
                if (left < LINE_BYTES) {
                    return lineByte(k, left);
                }
                left -= LINE_BYTES;
            }
            return NONE;
        }

        private static int digitsOf(int number) {
            for (int digits = 1; digits < POWERS.length; digits++) {
                if (number < POWERS[digits]) {
                    return digits;
                }
            }
            return POWERS.length;
        }

        private static int headByte(int time, int digits, int place) {
            if (place == 0) {
                return HASH;
            }
            int power = digits - place;
            if (power < 0 || power >= POWERS.length) {
                return LINE_END;
            }
            return '0' + time / POWERS[power] % 10;
        }

        private int lineByte(int k, int place) {
            switch (place) {
                case 0:
                    return VALUE_BYTES[values[k]];
                case 1:
                    return FIRST_NET_BYTE + nets[k];
                default:
                    return LINE_END;
            }
        }
    }

    /** All that is remembered and come back to. */
    private static final class Circuit {
        long time;
        int rule = VANISH;
        int netCount;
        final Net[] nets = new Net[MOST_NETS];
        int gateCount;
        final Gate[] gates = new Gate[MOST_GATES];
        int checkCount;
        final Check[] checks = new Check[MOST_CHECKS];
        final Hands hands = new Hands();
        final Waves waves = new Waves();

        Circuit() {
            for (int n = 0; n < MOST_NETS; n++) {
                nets[n] = new Net();
            }
            for (int g = 0; g < MOST_GATES; g++) {
                gates[g] = new Gate();
            }
            for (int c = 0; c < MOST_CHECKS; c++) {
                checks[c] = new Check();
            }
        }

        void copyFrom(Circuit other) {
            time = other.time;
            rule = other.rule;
            netCount = other.netCount;
            gateCount = other.gateCount;
            checkCount = other.checkCount;
            for (int n = 0; n < netCount; n++) {
                nets[n].copyFrom(other.nets[n]);
            }
            for (int g = 0; g < gateCount; g++) {
                gates[g].copyFrom(other.gates[g]);
            }
            for (int c = 0; c < checkCount; c++) {
                checks[c].copyFrom(other.checks[c]);
            }
            hands.copyFrom(other.hands);
            waves.copyFrom(other.waves);
        }

        boolean hasNet(int net) {
            return net >= 0 && net < netCount;
        }

        boolean isToCome(long when) {
            return when >= time && when <= LAST_TIME;
        }

        int addNet() {
            nets[netCount].begin();
            netCount++;
            return netCount - 1;
        }

        int addGate(int kind, int a, int b, int out) {
            int number = gateCount;
            Gate gate = gates[number];
            gate.begin(kind, a, b, out);
            gateCount++;
            refresh(out);
            if (kind != REGISTER) {
                gate.ask(given(gate), time, rule);
            }
            return number;
        }

        int addCheck(int kind, int clock, int data, int limit) {
            checks[checkCount].begin(kind, clock, data, limit);
            checkCount++;
            return checkCount - 1;
        }

        int unsettled() {
            int count = 0;
            for (int g = 0; g < gateCount; g++) {
                if (gates[g].kind <= XOR && gates[g].has != given(gates[g])) {
                    count++;
                }
            }
            return count;
        }

        long advance(long until) {
            int gateEvents = 0;
            for (int came = 0; came < MOST_EVENTS; came++) {
                int hand = hands.first();
                int gate = firstGate();
                boolean byHand = isHandFirst(hand, gate);
                long when = byHand ? hands.times[hand] : gate == NONE ? NEVER : gates[gate].due;
                if (when == NEVER || when > until) {
                    time = until;
                    return came;
                }
                if (when > time) {
                    gateEvents = 0;
                }
                time = when;
                if (byHand) {
                    refresh(takeHand(hand));
                } else if (gateEvents == MOST_GATE_EVENTS) {
                    return -1 - gates[gate].out;
                } else {
                    gateEvents++;
                    // Before the net changes, so that a gate that hears itself is asked with what was behind.
                    gates[gate].takeWaiting();
                    refresh(gates[gate].out);
                }
            }
            return MOST_EVENTS;
        }

        private int firstGate() {
            int best = NONE;
            for (int g = 0; g < gateCount; g++) {
                if (gates[g].waiting != NONE && (best == NONE || isBefore(gates[g], gates[best]))) {
                    best = g;
                }
            }
            return best;
        }

        private static boolean isBefore(Gate one, Gate other) {
            return one.due < other.due || one.due == other.due && one.out < other.out;
        }

        private boolean isHandFirst(int hand, int gate) {
            if (hand == NONE || gate == NONE) {
                return hand != NONE;
            }
            long handTime = hands.times[hand];
            long gateTime = gates[gate].due;
            return handTime < gateTime
                || handTime == gateTime && hands.nets[hand] <= gates[gate].out;
        }

        private int takeHand(int hand) {
            int number = hands.nets[hand];
            Net net = nets[number];
            switch (hands.acts[hand]) {
                case TO_DRIVE:
                    net.hand = hands.values[hand];
                    break;
                case TO_FORCE:
                    net.forced = hands.values[hand];
                    break;
                default:
                    net.forced = NONE;
                    break;
            }
            hands.drop(hand);
            return number;
        }

        /** Is called from a net's first gate or hand event on alone: before that a net shows UNKNOWN. */
        private void refresh(int number) {
            Net net = nets[number];
            int before = net.shown;
            int after = net.forced != NONE ? net.forced : driven(number);
            if (after == before) {
                return;
            }
            net.shown = after;
            net.changes++;
            waves.keep(time, number, after);
            boolean rises = before == 0 && after == 1;
            for (int g = 0; g < gateCount; g++) {
                if (gates[g].hears(number, rises)) {
                    gates[g].ask(given(gates[g]), time, rule);
                }
            }
            tryChecks(number, rises);
            // Noted last: a check of a net with itself looks at earlier changes alone.
            net.changedAt = time;
            if (rises) {
                net.roseAt = time;
            }
        }

        private int driven(int number) {
            int joined = nets[number].hand;
            for (int g = 0; g < gateCount; g++) {
                int has = gates[g].has;
                if (gates[g].out == number && has != OPEN && has != joined) {
                    joined = joined == OPEN ? has : UNKNOWN;
                }
            }
            return joined;
        }

        private int given(Gate gate) {
            return gate.gives(nets[gate.a].shown, nets[gate.b].shown);
        }

        private void tryChecks(int number, boolean rises) {
            for (int c = 0; c < checkCount; c++) {
                Check check = checks[c];
                if (breaks(check, number, rises)) {
                    check.breaks++;
                    blurRegisters(check);
                }
            }
        }

        private boolean breaks(Check check, int number, boolean rises) {
            if (check.kind == SET_UP) {
                return check.clock == number && rises
                    && check.isWithin(nets[check.data].changedAt, time);
            }
            return check.data == number && check.isWithin(nets[check.clock].roseAt, time);
        }

        private void blurRegisters(Check check) {
            for (int g = 0; g < gateCount; g++) {
                Gate gate = gates[g];
                if (gate.kind == REGISTER && gate.b == check.clock && gate.a == check.data) {
                    gate.ask(UNKNOWN, time, rule);
                }
            }
        }
    }

    private static final class Tape {
        int length;
        final int[] bytes = new int[MOST_BYTES];

        boolean append(int unit) {
            if (length >= MOST_BYTES) {
                return false;
            }
            bytes[length] = unit;
            length++;
            return true;
        }

        int byteOrNone(int place) {
            return place >= 0 && place < length ? bytes[place] : NONE;
        }

        int skipBlanks(int from) {
            int place = from;
            while (place < length && isBlank(byteOrNone(place))) {
                place++;
            }
            return place;
        }

        int skipDigits(int from) {
            int place = from;
            while (place < length && isDigit(byteOrNone(place))) {
                place++;
            }
            return place;
        }

        private static boolean isBlank(int unit) {
            return unit == 9 || unit == LINE_END || unit == 13 || unit == ' ';
        }

        private static boolean isDigit(int unit) {
            return unit >= '0' && unit <= '9';
        }
    }

    /** Goes over the tape twice: it tells nothing before the whole text is known to be sound. */
    private static final class TapeReader {
        private final Tape tape;
        private final Circuit circuit;
        private long told;
        int found;

        TapeReader(Tape tape, Circuit circuit) {
            this.tape = tape;
            this.circuit = circuit;
        }

        int pass(boolean tells) {
            told = NEVER;
            found = 0;
            int place = tape.skipBlanks(0);
            for (int tokens = 0; tokens < MOST_BYTES && place < tape.length; tokens++) {
                int end = tape.byteOrNone(place) == HASH ? takeTime(place) : takeLine(place, tells);
                if (end == NONE) {
                    return place;
                }
                place = tape.skipBlanks(end);
            }
            return NONE;
        }

        private int takeTime(int place) {
            int end = tape.skipDigits(place + 1);
            long number = 0;
            for (int i = place + 1; i < end; i++) {
                // Held just beyond the last time, so that no count of digits overflows.
                number = Math.min(number * 10 + (tape.byteOrNone(i) - '0'), LAST_TIME + 1);
            }
            if (end == place + 1 || !circuit.isToCome(number)) {
                return NONE;
            }
            told = number;
            return end;
        }

        private int takeLine(int place, boolean tells) {
            int v = valueOf(tape.byteOrNone(place));
            int net = tape.byteOrNone(place + 1) - FIRST_NET_BYTE;
            if (v == NONE || told == NEVER || !circuit.hasNet(net)) {
                return NONE;
            }
            if (tells) {
                circuit.hands.append(TO_DRIVE, net, told, v);
            }
            found++;
            return place + 2;
        }

        private static int valueOf(int unit) {
            for (int v = 0; v < VALUE_BYTES.length; v++) {
                if (VALUE_BYTES[v] == unit) {
                    return v;
                }
            }
            return NONE;
        }
    }
}
