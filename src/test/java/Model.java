import java.util.ArrayList;
import java.util.Comparator;
import java.util.List;
import java.util.regex.Matcher;
import java.util.regex.Pattern;

/** The document once more, written as plainly as can be and in another way than the class: the tests compare both. */
final class Model {
    private static final long LAST = 1000000000L;

    private record Hand(int act, int net, long time, int v) { }

    private record Wait(int v, long till) { }

    private record Change(long time, int net, int v) { }

    private static final class Gate {
        int kind, a, b, out, rise = 1, fall = 1, has;
        List<Wait> queue = new ArrayList<>();

        Gate copy() {
            Gate g = new Gate();
            g.kind = kind;
            g.a = a;
            g.b = b;
            g.out = out;
            g.rise = rise;
            g.fall = fall;
            g.has = has;
            g.queue = new ArrayList<>(queue);
            return g;
        }
    }

    private static final class State {
        long now;
        int rule;
        List<Integer> shown = new ArrayList<>();
        List<Integer> hand = new ArrayList<>();
        List<Integer> forced = new ArrayList<>();
        List<Change> changes = new ArrayList<>();
        List<List<Long>> rises = new ArrayList<>();
        List<Gate> gates = new ArrayList<>();
        List<int[]> checks = new ArrayList<>();
        List<Hand> hands = new ArrayList<>();

        State copy() {
            State s = new State();
            s.now = now;
            s.rule = rule;
            s.shown.addAll(shown);
            s.hand.addAll(hand);
            s.forced.addAll(forced);
            s.changes.addAll(changes);
            rises.forEach(r -> s.rises.add(new ArrayList<>(r)));
            gates.forEach(g -> s.gates.add(g.copy()));
            checks.forEach(c -> s.checks.add(c.clone()));
            s.hands.addAll(hands);
            return s;
        }
    }

    private State s = new State();
    private final List<State> saves = new ArrayList<>();
    private final StringBuilder tape = new StringBuilder();

    int net() {
        state(s.shown.size() < 24);
        s.shown.add(2);
        s.hand.add(3);
        s.forced.add(null);
        s.rises.add(new ArrayList<>());
        return s.shown.size() - 1;
    }

    int gate(int kind, int a, int b, int out) {
        index(a, s.shown.size());
        index(b, s.shown.size());
        index(out, s.shown.size());
        state(s.gates.size() < 32);
        argument(kind >= 0 && kind <= 7);
        Gate g = new Gate();
        g.kind = kind;
        g.a = a;
        g.b = b;
        g.out = out;
        g.has = kind == 5 ? 3 : 2;
        s.gates.add(g);
        look(out);
        if (kind != 7) {
            ask(g, gives(g));
        }
        return s.gates.size() - 1;
    }

    boolean delay(int gate, int rise, int fall) {
        index(gate, s.gates.size());
        argument(rise >= 0 && rise <= 1000 && fall >= 0 && fall <= 1000);
        Gate g = s.gates.get(gate);
        boolean same = g.rise == rise && g.fall == fall;
        g.rise = rise;
        g.fall = fall;
        return !same;
    }

    boolean spike(int rule) {
        argument(rule == 0 || rule == 1);
        boolean same = s.rule == rule;
        s.rule = rule;
        return !same;
    }

    /** act 0 drives, 1 forces, 2 releases. */
    int tell(int act, int net, long time, int v) {
        index(net, s.shown.size());
        state(s.hands.size() < 100);
        argument(act == 2 || v >= 0 && v <= 3);
        argument(time >= s.now && time <= LAST);
        s.hands.add(new Hand(act, net, time, v));
        return s.hands.size();
    }

    int check(int kind, int clock, int data, int limit) {
        index(clock, s.shown.size());
        index(data, s.shown.size());
        state(s.checks.size() < 20);
        argument(kind == 0 || kind == 1);
        argument(limit >= 0 && limit <= 1000);
        s.checks.add(new int[] {kind, clock, data, limit, 0});
        return s.checks.size() - 1;
    }

    int broken(int check) {
        index(check, s.checks.size());
        return s.checks.get(check)[4];
    }

    long run(long until) {
        argument(until >= s.now && until <= LAST);
        int came = 0;
        List<Long> gateTimes = new ArrayList<>();
        while (came < 150) {
            Object next = next();
            if (next == null || timeOf(next) > until) {
                s.now = until;
                return came;
            }
            s.now = timeOf(next);
            if (next instanceof Gate g) {
                if (gateTimes.stream().filter(t -> t == s.now).count() == 60) {
                    return -1 - g.out;
                }
                gateTimes.add(s.now);
                g.has = g.queue.remove(0).v();
                g.queue.removeIf(w -> w.v() == g.has);
            } else if (next instanceof Hand h) {
                s.hands.remove(h);
                if (h.act() == 0) {
                    s.hand.set(h.net(), h.v());
                } else {
                    s.forced.set(h.net(), h.act() == 1 ? Integer.valueOf(h.v()) : null);
                }
            }
            look(netOf(next));
            came++;
        }
        return came;
    }

    long now() {
        return s.now;
    }

    int at(int net, long time) {
        index(net, s.shown.size());
        argument(time >= 0 && time <= s.now);
        int v = 2;
        for (Change c : kept()) {
            v = c.net() == net && c.time() <= time ? c.v() : v;
        }
        return v;
    }

    int value(int net) {
        index(net, s.shown.size());
        return s.shown.get(net);
    }

    int change(int k, int what) {
        List<Change> kept = kept();
        index(what, 4);
        index(k, what == 3 ? Math.max(1, kept.size()) : kept.size());
        return switch (what) {
            case 0 -> (int) kept.get(k).time();
            case 1 -> kept.get(k).net();
            case 2 -> kept.get(k).v();
            default -> kept.size();
        };
    }

    long counted(int net) {
        index(net, s.shown.size());
        return s.changes.stream().filter(c -> c.net() == net).count();
    }

    boolean unit(int u) {
        boolean room = tape.length() < 2000;
        if (room) {
            tape.append((char) (u & 255));
        }
        return room;
    }

    private static final Pattern TOKEN = Pattern.compile("#([0-9]+)|([01xz])([\\x00-\\xff])", Pattern.DOTALL);

    int read() {
        List<Hand> told = new ArrayList<>();
        int fault = scan(told);
        if (fault < 0) {
            state(s.hands.size() + told.size() <= 100);
            s.hands.addAll(told);
        }
        tape.setLength(0);
        return fault < 0 ? told.size() : -1 - fault;
    }

    private int scan(List<Hand> told) {
        Matcher token = TOKEN.matcher(tape);
        long time = -1;
        int p = 0;
        while (p < tape.length()) {
            if ("\t\n\r ".indexOf(tape.charAt(p)) >= 0) {
                p++;
                continue;
            }
            if (!token.region(p, tape.length()).lookingAt()) {
                return p;
            }
            if (token.group(1) != null) {
                String digits = token.group(1).replaceFirst("^0+", "");
                time = digits.isEmpty() ? 0 : digits.length() > 10 ? LAST + 1 : Long.parseLong(digits);
                if (time < s.now || time > LAST) {
                    return p;
                }
            } else {
                int net = token.group(3).charAt(0) - 33;
                if (time < 0 || net < 0 || net >= s.shown.size()) {
                    return p;
                }
                told.add(new Hand(0, net, time, "01xz".indexOf(token.group(2))));
            }
            p = token.end();
        }
        return -1;
    }

    int write(int i) {
        String text = text();
        index(i, text.length());
        return text.charAt(i);
    }

    String text() {
        StringBuilder text = new StringBuilder();
        long time = -1;
        for (Change c : kept()) {
            if (c.time() != time) {
                text.append("#").append(c.time()).append("\n");
            }
            time = c.time();
            text.append("01xz".charAt(c.v())).append((char) (33 + c.net())).append("\n");
        }
        return text.toString();
    }

    int levels() {
        return (int) s.gates.stream().filter(g -> g.kind < 5 && g.has != gives(g)).count();
    }

    int save() {
        state(saves.size() < 4);
        saves.add(s.copy());
        return saves.size() - 1;
    }

    boolean back(int saved) {
        if (saved < 0 || saved >= saves.size()) {
            return false;
        }
        s = saves.get(saved).copy();
        return true;
    }

    private List<Change> kept() {
        return s.changes.subList(0, Math.min(600, s.changes.size()));
    }

    private Object next() {
        List<Object> all = new ArrayList<>(s.hands);
        s.gates.stream().filter(g -> !g.queue.isEmpty()).forEach(all::add);
        return all.stream()
            .min(Comparator.<Object>comparingLong(Model::timeOf).thenComparingInt(Model::netOf))
            .orElse(null);
    }

    private static long timeOf(Object event) {
        return event instanceof Hand h ? h.time() : ((Gate) event).queue.get(0).till();
    }

    private static int netOf(Object event) {
        return event instanceof Hand h ? h.net() : ((Gate) event).out;
    }

    private int gives(Gate g) {
        int a = Math.min(2, s.shown.get(g.a));
        int b = Math.min(2, s.shown.get(g.b));
        return switch (g.kind) {
            case 1 -> new int[] {1, 0, 2}[a];
            case 2 -> a == 0 || b == 0 ? 0 : Math.max(a, b);
            case 3 -> a == 1 || b == 1 ? 1 : Math.max(a, b);
            case 4 -> Math.max(a, b) == 2 ? 2 : a ^ b;
            case 5 -> new int[] {3, a, 2}[b];
            case 6 -> new int[] {g.has, a, g.has == a ? a : 2}[b];
            default -> a;
        };
    }

    private void ask(Gate g, int v) {
        int delay = v == 1 ? g.rise : v == 0 ? g.fall : v == 2 ? Math.min(g.rise, g.fall) : Math.max(g.rise, g.fall);
        Wait asked = new Wait(v, s.now + delay);
        if (g.queue.isEmpty()) {
            if (v != g.has) {
                g.queue.add(asked);
            }
        } else if (g.queue.get(0).v() == v) {
            g.queue = new ArrayList<>(g.queue.subList(0, 1));
        } else if (s.rule == 0) {
            g.queue.clear();
            ask(g, v);
        } else {
            long u = g.queue.get(0).till();
            g.queue = new ArrayList<>(List.of(new Wait(2, u), new Wait(v, Math.max(u, asked.till()))));
        }
    }

    private int driven(int net) {
        if (s.forced.get(net) != null) {
            return s.forced.get(net);
        }
        List<Integer> drivers = new ArrayList<>(List.of(s.hand.get(net)));
        s.gates.stream().filter(g -> g.out == net).forEach(g -> drivers.add(g.has));
        drivers.removeIf(v -> v == 3);
        long kinds = drivers.stream().distinct().count();
        return kinds == 0 ? 3 : kinds == 1 ? drivers.get(0) : 2;
    }

    private void look(int net) {
        int before = s.shown.get(net);
        int v = driven(net);
        if (v == before) {
            return;
        }
        s.shown.set(net, v);
        boolean rise = before == 0 && v == 1;
        for (Gate g : s.gates) {
            if (g.kind == 7 ? rise && g.b == net : g.a == net || g.b == net) {
                ask(g, gives(g));
            }
        }
        for (int[] c : s.checks) {
            boolean isNow = c[0] == 0 ? c[1] == net && rise : c[2] == net;
            boolean wasBefore = c[0] == 0
                ? s.changes.stream().anyMatch(x -> x.net() == c[2] && s.now - x.time() < c[3])
                : s.rises.get(c[1]).stream().anyMatch(t -> s.now - t < c[3]);
            if (isNow && wasBefore) {
                c[4]++;
                s.gates.stream().filter(g -> g.kind == 7 && g.b == c[1] && g.a == c[2]).forEach(g -> ask(g, 2));
            }
        }
        s.changes.add(new Change(s.now, net, v));
        if (rise) {
            s.rises.get(net).add(s.now);
        }
    }

    private static void index(int i, int size) {
        if (i < 0 || i >= size) {
            throw new IndexOutOfBoundsException();
        }
    }

    private static void state(boolean holds) {
        if (!holds) {
            throw new IllegalStateException();
        }
    }

    private static void argument(boolean holds) {
        if (!holds) {
            throw new IllegalArgumentException();
        }
    }
}
