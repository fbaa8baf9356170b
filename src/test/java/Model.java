import java.util.ArrayList;
import java.util.HashSet;
import java.util.IdentityHashMap;
import java.util.List;
import java.util.Map;
import java.util.Set;
import java.util.concurrent.SynchronousQueue;
import java.util.concurrent.TimeUnit;

/**
 * The document again, written another way than MarkedSteps: FRAMES are Java calls, what is thrown is thrown, ROWS
 * are Java arrays, a walk is a thread that waits ahead of each ACT, and verify goes every way by itself.
 */
final class Model {
    private static final int UNKNOWN = -1, OUTSIDE = -2, NO = -3, FULL = -4, NONE = -5, STOPPED = -9;

    private static class Plain {
        int v;
        Object next;
        int mark = 1;
        final Map<Frame, Integer> holders = new IdentityHashMap<>();

        int kind() { return 1; }

        int otherMark() { return mark; }

        int weight(Model m) {
            m.pay(0, 1);
            return v + mark;
        }
    }

    private static class Heavy extends Plain {
        @Override int kind() { return 2; }

        @Override int weight(Model m) {
            m.pay(0, 1);
            return 2 * super.weight(m);
        }
    }

    private static class Odd extends Heavy {
        int mark = 7;

        @Override int kind() { return 3; }

        @Override int otherMark() { return mark; }
    }

    private static final class Grand extends Odd {
        @Override int kind() { return 4; }

        @Override int weight(Model m) {
            m.pay(0, 1);
            return super.weight(m) + mark;
        }
    }

    private static final class Frame {
        final Object[] registers = new Object[8];
        Code code;
        int at;

        int holdings(Model m) {
            int n = 0;
            for (Plain p : m.cells) n += p.holders.getOrDefault(this, 0);
            return n;
        }
    }

    private static final class Code {
        int number, wants, begun;
        final List<int[]> acts = new ArrayList<>();
        final List<int[]> handlers = new ArrayList<>();
    }

    private static final class Thrown extends RuntimeException {
        private static final long serialVersionUID = 1;
        final int kind, number;

        Thrown(int kind, int number) {
            super(null, null, false, false);
            this.kind = kind;
            this.number = number;
        }
    }

    private static final class Stop extends RuntimeException {
        private static final long serialVersionUID = 1;

        Stop() { super(null, null, false, false); }
    }

    private final List<Code> members = new ArrayList<>();
    private final int[] prices = {1, 1, 1, 1, 1};
    private int[] plan = new int[12];
    private final Object[] arguments = new Object[3];
    private Object result;
    private final int[] counts = new int[9];
    private final List<Integer> trace = new ArrayList<>();
    private int house = 6000, budget;
    private final int[] told = new int[5];
    private final List<Frame> frames = new ArrayList<>();
    private final Set<Plain> cells = new HashSet<>();
    private boolean walking;
    private final SynchronousQueue<Integer> orders = new SynchronousQueue<>();
    private final SynchronousQueue<Integer> answers = new SynchronousQueue<>();
    /** What was performed and how it ended, [op][0 done, KIND thrown, 10 stopped]: to see that the tests get around. */
    final int[][] seen;

    Model(int[][] seen) { this.seen = seen; }

    // ---- members

    int member(int wants) {
        if (wants < 0 || wants > 3) return OUTSIDE;
        if (walking) return NO;
        if (members.size() == 10) return FULL;
        Code c = new Code();
        c.wants = wants;
        c.number = members.size();
        members.add(c);
        return c.number;
    }

    private static boolean in(int n, int from, int to) { return from <= n && n <= to; }

    private static boolean reg(int n) { return in(n, 0, 7); }

    private static boolean fits(int op, int a, int b, int c) {
        switch (op) {
            case 0: return reg(a);
            case 1: return reg(a) && reg(b);
            case 2: case 3: case 4: case 5: case 6: case 7: case 8: return reg(a) && reg(b) && reg(c);
            case 9: return in(a, 0, 40);
            case 10: return reg(a) && in(b, 0, 40);
            case 11: return reg(a) && reg(b) && in(c, 0, 4);
            case 12: return reg(a) && in(b, 0, 3);
            case 13: case 14: return reg(a) && reg(b) && reg(c);
            case 15: return reg(a) && reg(b);
            case 16: return reg(a) && reg(b) && in(c, 0, 3);
            case 17: return reg(a) && in(b, 0, 1) && reg(c);
            case 18: return reg(a) && reg(b) && in(c, 0, 11);
            case 19: return reg(a) && in(b, 0, 11);
            case 20: case 21: case 22: return reg(a);
            case 23: return reg(a) && reg(c);
            case 24: return reg(a);
            case 25: case 26: case 27: return reg(a) && reg(b);
            default: return false;
        }
    }

    int act(int member, int op, int a, int b, int c) {
        if (!in(member, 0, members.size() - 1)) return UNKNOWN;
        if (!fits(op, a, b, c)) return OUTSIDE;
        if (walking) return NO;
        List<int[]> acts = members.get(member).acts;
        if (acts.size() == 40) return FULL;
        acts.add(new int[] {op, a, b, c});
        return acts.size();
    }

    int handler(int member, int from, int to, int kind, int at) {
        if (!in(member, 0, members.size() - 1)) return UNKNOWN;
        if (!in(from, 0, 40) || !in(to, 0, 40) || !in(kind, 0, 9) || !in(at, 0, 40)) return OUTSIDE;
        if (walking) return NO;
        List<int[]> handlers = members.get(member).handlers;
        if (handlers.size() == 6) return FULL;
        handlers.add(new int[] {from, to, kind, at});
        return handlers.size();
    }

    int cut(int member) {
        if (!in(member, 0, members.size() - 1)) return UNKNOWN;
        List<int[]> acts = members.get(member).acts;
        if (walking || acts.isEmpty()) return NO;
        acts.remove(acts.size() - 1);
        return acts.size();
    }

    int price(int kind, int n) {
        if (!in(kind, 0, 4) || !in(n, 1, 9)) return OUTSIDE;
        if (walking) return NO;
        int was = prices[kind];
        prices[kind] = n;
        return was;
    }

    int verify(int member) {
        if (!in(member, 0, members.size() - 1)) return UNKNOWN;
        Code code = members.get(member);
        boolean[][] been = new boolean[41][256];
        List<int[]> ways = new ArrayList<>();
        ways.add(new int[] {0, (1 << code.wants) - 1});
        int least = Integer.MAX_VALUE;
        while (!ways.isEmpty()) {
            int[] way = ways.remove(ways.size() - 1);
            int at = way[0], made = way[1];
            if (at >= code.acts.size() || been[at][made]) continue;
            been[at][made] = true;
            int[] act = code.acts.get(at);
            for (int r : looks(act)) {
                if ((made >> r & 1) == 0) least = Math.min(least, at);
            }
            int behind = makes(act[0]) ? made | 1 << act[1] : made;
            if (act[0] == 9 || act[0] == 10) ways.add(new int[] {act[0] == 9 ? act[1] : act[2], behind});
            if (act[0] != 9 && act[0] != 22 && act[0] != 24) ways.add(new int[] {at + 1, behind});
            for (int[] h : code.handlers) {
                if (h[0] <= at && at < h[1]) ways.add(new int[] {h[3], made | 128});
            }
        }
        return least == Integer.MAX_VALUE ? NONE : least;
    }

    private List<Integer> looks(int[] act) {
        int a = act[1], b = act[2], c = act[3];
        switch (act[0]) {
            case 0: case 9: case 12: return List.of();
            case 1: case 11: case 15: case 16: case 18: case 26: case 27: return List.of(b);
            case 10: case 19: case 20: case 21: case 22: case 24: return List.of(a);
            case 13: return List.of(a, b, c);
            case 17: return List.of(a, c);
            case 25: return List.of(a, b);
            case 23: {
                List<Integer> all = new ArrayList<>();
                int wants = in(b, 0, members.size() - 1) ? members.get(b).wants : 0;
                for (int k = c; k < c + wants && k <= 7; k++) all.add(k);
                return all;
            }
            default: return List.of(b, c);
        }
    }

    private static boolean makes(int op) {
        return op <= 8 || op == 11 || op == 12 || op >= 14 && op <= 16 || op == 18 || op == 23 || op >= 26;
    }

    int info(int member, int what) {
        if (!in(member, 0, members.size() - 1)) return UNKNOWN;
        if (!in(what, 0, 3)) return OUTSIDE;
        Code c = members.get(member);
        return new int[] {c.wants, c.acts.size(), c.handlers.size(), c.begun}[what];
    }

    // ---- the plan, arguments

    int set(int i, int v) {
        if (!in(i, 0, 11)) return OUTSIDE;
        if (walking) return NO;
        int was = plan[i];
        plan[i] = v;
        return was;
    }

    int plan(int i) { return in(i, 0, 11) ? plan[i] : OUTSIDE; }

    int argument(int k, int kind, int n) {
        if (!in(k, 0, 2) || !in(kind, 0, 2)) return OUTSIDE;
        arguments[k] = kind == 0 ? null : kind == 1 ? (Object) n : result;
        return 1;
    }

    // ---- runs

    private int refusal(int member, int budget) {
        if (!in(member, 0, members.size() - 1)) return UNKNOWN;
        if (!in(budget, 0, 1000)) return OUTSIDE;
        return walking ? NO : 0;
    }

    int run(int member, int budget) {
        int no = refusal(member, budget);
        return no != 0 ? no : whole(member, budget);
    }

    private int whole(int member, int budget) {
        told[1]++;
        this.budget = budget;
        java.util.Arrays.fill(counts, 0);
        trace.clear();
        result = null;
        int[] before = plan.clone();
        try {
            result = enter(members.get(member), arguments, 0);
            told[4]++;
            return 0;
        } catch (Stop s) {
            plan = before;
            told[2]++;
            return STOPPED;
        } catch (Thrown t) {
            told[3]++;
            return -10 - t.kind;
        }
    }

    private void take(long steps) {
        if (steps > budget || steps > house) throw new Stop();
        budget -= (int) steps;
        house -= (int) steps;
        counts[0] += (int) steps;
    }

    private void pay(int price, int times) {
        take((long) prices[price] * times);
        counts[price + 1] += times;
    }

    private void traced(int n) {
        if (trace.size() < 100) trace.add(n);
    }

    private Object enter(Code code, Object[] from, int first) {
        pay(0, 1);
        Frame f = new Frame();
        f.code = code;
        for (int k = 0; k < code.wants; k++) f.registers[k] = first + k < from.length ? from[first + k] : null;
        frames.add(f);
        code.begun++;
        counts[6] = Math.max(counts[6], frames.size());
        traced(100 + code.number);
        try {
            return acts(f);
        } finally {
            counts[8] += f.holdings(this);
            for (Plain p : cells) p.holders.remove(f);
            frames.remove(frames.size() - 1);
        }
    }

    private Object acts(Frame f) {
        while (f.at < f.code.acts.size()) {
            if (walking) pause();
            int[] act = f.code.acts.get(f.at);
            try {
                if (act[0] == 24) {
                    seen[24][0]++;
                    return f.registers[act[1]];
                }
                f.at = one(f, act);
                seen[act[0]][0]++;
            } catch (Stop s) {
                seen[act[0]][10]++;
                throw s;
            } catch (Thrown t) {
                seen[act[0]][t.kind]++;
                int[] h = handlerFor(f, t.kind);
                if (h == null) throw t;
                pay(2, 1);
                traced(t.kind);
                f.registers[7] = t.kind == 9 ? t.number : t.kind;
                f.at = h[3];
            }
        }
        return null;
    }

    private static int[] handlerFor(Frame f, int kind) {
        for (int[] h : f.code.handlers) {
            if (h[0] <= f.at && f.at < h[1] && (h[2] == 0 || h[2] == kind)) return h;
        }
        return null;
    }

    private static <T> T want(Object thing, Class<T> type) {
        if (thing == null) throw new Thrown(1, 0);
        if (!type.isInstance(thing)) throw new Thrown(3, 0);
        return type.cast(thing);
    }

    private static Object wantRow(Object thing) {
        if (thing == null) throw new Thrown(1, 0);
        if (!thing.getClass().isArray()) throw new Thrown(3, 0);
        return thing;
    }

    private static int number(Object thing) { return want(thing, Integer.class); }

    private static int kind(Object thing) {
        if (thing == null) return NONE;
        if (thing instanceof Integer) return 0;
        if (thing instanceof Plain p) return p.kind();
        if (thing instanceof int[]) return 5;
        if (thing instanceof byte[]) return 6;
        if (thing instanceof char[]) return 7;
        return thing instanceof long[] ? 8 : 9;
    }

    private static boolean is(Object thing, int kind) {
        switch (kind) {
            case 0: return thing instanceof Integer;
            case 1: return thing instanceof Plain;
            case 2: return thing instanceof Heavy;
            case 3: return thing instanceof Odd;
            case 4: return thing instanceof Grand;
            case 10: return thing != null && thing.getClass().isArray();
            case 11: return thing != null;
            default: return kind(thing) == kind;
        }
    }

    private static boolean same(Object x, Object y) {
        return x instanceof Integer i && y instanceof Integer j ? i.intValue() == j.intValue() : x == y;
    }

    private static int jump(int from, int to, Model m) {
        if (to <= from) m.pay(1, 1);
        return to;
    }

    private int one(Frame f, int[] act) {
        int a = act[1], b = act[2], c = act[3], at = f.at;
        Object[] r = f.registers;
        switch (act[0]) {
            case 0: r[a] = b; break;
            case 1: r[a] = r[b]; break;
            case 2: case 3: case 4: case 5: case 6: case 7: r[a] = reckon(act[0], number(r[b]), number(r[c])); break;
            case 8: r[a] = same(r[b], r[c]) ? 1 : 0; break;
            case 9: return jump(at, a, this);
            case 10: return number(r[a]) != 0 ? jump(at, b, this) : at + 1;
            case 11: r[a] = row(c, number(r[b])); break;
            case 12: r[a] = made(b); break;
            case 13: put(wantRow(r[a]), r[b], r[c]); break;
            case 14: r[a] = get(wantRow(r[b]), number(r[c])); break;
            case 15: r[a] = java.lang.reflect.Array.getLength(wantRow(r[b])); break;
            case 16: r[a] = field(want(r[b], Plain.class), c); break;
            case 17: fill(want(r[a], Plain.class), b, r[c]); break;
            case 18: r[a] = is(r[b], c) ? 1 : 0; break;
            case 19: if (r[a] != null && !is(r[a], b)) throw new Thrown(3, 0); break;
            case 20: want(r[a], Plain.class).holders.merge(f, 1, Integer::sum); counts[7]++; break;
            case 21: leave(f, want(r[a], Plain.class)); break;
            case 22: throw new Thrown(9, number(r[a]));
            case 23: r[a] = call(f, b, c); break;
            case 25: { int v = number(r[a]), i = number(r[b]); plan[index(i, 12)] = v; break; }
            case 26: r[a] = plan[index(number(r[b]), 12)]; break;
            case 27: r[a] = want(r[b], Plain.class).weight(this); break;
            default: throw new IllegalStateException();
        }
        return at + 1;
    }

    private static int reckon(int op, int m, int n) {
        if (op >= 5 && op <= 6 && n == 0) throw new Thrown(5, 0);
        switch (op) {
            case 2: return m + n;
            case 3: return m - n;
            case 4: return m * n;
            case 5: return m / n;
            case 6: return m % n;
            default: return m < n ? 1 : 0;
        }
    }

    private static int index(int i, int size) {
        if (i < 0 || i >= size) throw new Thrown(2, 0);
        return i;
    }

    private Object row(int lane, int n) {
        if (n < 0) throw new Thrown(4, 0);
        take(prices[3] + (long) prices[4] * n);
        counts[4]++;
        counts[5] += n;
        switch (lane) {
            case 0: return new int[n];
            case 1: return new byte[n];
            case 2: return new char[n];
            case 3: return new long[n];
            default: return new int[n][];
        }
    }

    private Plain made(int sort) {
        pay(3, 1);
        Plain p = sort == 0 ? new Plain() : sort == 1 ? new Heavy() : sort == 2 ? new Odd() : new Grand();
        cells.add(p);
        return p;
    }

    private static void put(Object row, Object index, Object value) {
        int i = number(index);
        if (row instanceof int[][] rows) {
            if (value != null && !(value instanceof int[])) throw new Thrown(3, 0);
            rows[index(i, rows.length)] = (int[]) value;
            return;
        }
        int v = number(value);
        index(i, java.lang.reflect.Array.getLength(row));
        if (row instanceof int[] x) x[i] = v;
        if (row instanceof byte[] x) x[i] = (byte) v;
        if (row instanceof char[] x) x[i] = (char) v;
        if (row instanceof long[] x) x[i] = v;
    }

    private static Object get(Object row, int i) {
        index(i, java.lang.reflect.Array.getLength(row));
        if (row instanceof int[] x) return x[i];
        if (row instanceof byte[] x) return (int) x[i];
        if (row instanceof char[] x) return (int) x[i];
        if (row instanceof long[] x) return (int) x[i];
        return ((int[][]) row)[i];
    }

    private static Object field(Plain p, int which) {
        return which == 0 ? (Object) p.v : which == 1 ? p.next : which == 2 ? (Object) p.mark : (Object) p.otherMark();
    }

    private static void fill(Plain p, int which, Object value) {
        if (which == 0) p.v = number(value);
        else p.next = value;
    }

    private static void leave(Frame f, Plain p) {
        Integer n = p.holders.get(f);
        if (n == null) throw new Thrown(6, 0);
        if (n == 1) p.holders.remove(f);
        else p.holders.put(f, n - 1);
    }

    private Object call(Frame f, int number, int first) {
        if (!in(number, 0, members.size() - 1)) throw new Thrown(8, 0);
        if (frames.size() == 12) throw new Thrown(7, 0);
        return enter(members.get(number), f.registers, first);
    }

    private static int measure(Object thing) {
        if (thing == null) return 0;
        if (thing instanceof Integer n) return n;
        return thing instanceof Plain p ? p.v : java.lang.reflect.Array.getLength(thing);
    }

    int result(int what) {
        if (!in(what, 0, 2)) return OUTSIDE;
        if (what == 0) return kind(result);
        if (what == 1) return measure(result);
        return result instanceof Plain p ? p.holders.values().stream().mapToInt(n -> n).sum() : 0;
    }

    int into(int i) {
        if (result instanceof Plain p) result = p.next;
        else if (result instanceof int[][] rows) {
            if (!in(i, 0, rows.length - 1)) return OUTSIDE;
            result = rows[i];
        } else return NO;
        return kind(result);
    }

    int cell(int i) {
        int kind = kind(result);
        return in(kind, 5, 8) && in(i, 0, measure(result) - 1) ? (Integer) get(result, i) : 0;
    }

    int counted(int what) { return in(what, 0, 8) ? counts[what] : OUTSIDE; }

    int trace(int i) { return in(i, 0, trace.size() - 1) ? trace.get(i) : NONE; }

    int left() { return house; }

    // ---- walks

    /** Neither side of a walk waits for ever: if the other one has died, the test fails instead of hanging. */
    private static int taken(SynchronousQueue<Integer> queue) {
        try {
            Integer n = queue.poll(60, TimeUnit.SECONDS);
            if (n == null) throw new IllegalStateException("the other side of the walk is gone");
            return n;
        } catch (InterruptedException e) {
            throw new IllegalStateException(e);
        }
    }

    private static void handed(SynchronousQueue<Integer> queue, int n) {
        try {
            if (!queue.offer(n, 60, TimeUnit.SECONDS)) throw new IllegalStateException("the other side of the walk is gone");
        } catch (InterruptedException e) {
            throw new IllegalStateException(e);
        }
    }

    private void pause() {
        handed(answers, 1);
        if (taken(orders) == 0) throw new Stop();
    }

    int walk(int member, int budget) {
        int no = refusal(member, budget);
        if (no != 0) return no;
        walking = true;
        Thread walker = new Thread(() -> handed(answers, whole(member, budget)));
        walker.setDaemon(true);
        walker.start();
        return walked();
    }

    private int walked() {
        int answer = taken(answers);
        walking = answer == 1;
        return answer;
    }

    int step(int n) {
        if (!in(n, 1, 1000)) return OUTSIDE;
        if (!walking) return NO;
        int answer = 1;
        for (int i = 0; i < n && answer == 1; i++) {
            handed(orders, 1);
            answer = walked();
        }
        return answer;
    }

    int drop() {
        if (!walking) return NO;
        handed(orders, 0);
        walked();
        return 1;
    }

    int frame(int what) {
        if (!in(what, 0, 3)) return OUTSIDE;
        if (!walking) return NO;
        Frame f = frames.get(frames.size() - 1);
        int held = 0;
        for (Plain p : cells) for (int times : p.holders.values()) held += times;
        return new int[] {frames.size(), f.code.number, f.at, held}[what];
    }

    /** For the tests alone: what the FRAME at hand holds of frame(3). */
    int heldAtHand() {
        return walking ? frames.get(frames.size() - 1).holdings(this) : 0;
    }

    int register(int k, int what) {
        if (!in(k, 0, 7) || !in(what, 0, 1)) return OUTSIDE;
        if (!walking) return NO;
        Object thing = frames.get(frames.size() - 1).registers[k];
        return what == 0 ? kind(thing) : measure(thing);
    }

    int told(int what) {
        if (!in(what, 0, 5)) return OUTSIDE;
        return what == 0 ? members.size() : what == 5 ? (walking ? 1 : 0) : told[what];
    }
}
