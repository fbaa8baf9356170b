import java.util.ArrayList;
import java.util.List;

/**
 * Made-up runs of calls, asked of MarkedSteps and of the Model: every answer has to be alike. No object is asked more
 * than the 512 calls that the document promises answers for.
 */
public final class ModelTests {
    private static final int OBJECTS = 12000, MOST_CALLS = 512, LAST_LOOK = 150, STEPS_LOOKED_AT = 60;
    /** By OP, how it can end: 0 done, 1 to 9 the KIND thrown, 10 the STOP (GIVE's and THROW's own ends with them). */
    private static final int[][] ENDS = {
        {0}, {0}, {0, 1, 3}, {0, 1, 3}, {0, 1, 3}, {0, 1, 3, 5}, {0, 1, 3, 5}, {0, 1, 3}, {0},
        {0, 10}, {0, 1, 3, 10}, {0, 1, 3, 4, 10}, {0, 10}, {0, 1, 2, 3}, {0, 1, 2, 3}, {0, 1, 3}, {0, 1, 3}, {0, 1, 3},
        {0}, {0, 3}, {0, 1, 3}, {0, 1, 3, 6}, {1, 3, 9}, {0, 1, 2, 3, 4, 5, 6, 7, 8, 9, 10}, {0}, {0, 1, 2, 3}, {0, 1, 2, 3},
        {0, 1, 3, 10}};
    private static int wrong = 0;
    /** How often a WALK was looked at within a CALL: whose caller holds, and where both FRAMES hold. */
    private static int callerHolds = 0, bothHold = 0;

    private long seed;
    private final MarkedSteps x = new MarkedSteps();
    private final Model y;
    private final List<String> calls = new ArrayList<>();
    private int callsLeft = MOST_CALLS;
    private boolean differs;

    private ModelTests(long seed, int[][] seen) {
        this.seed = seed * 7919 + 17;
        this.y = new Model(seen);
    }

    private int below(int n) {
        seed = seed * 6364136223846793005L + 1442695040888963407L;
        return (int) ((seed >>> 33) % n);
    }

    private int among(int... all) { return all[below(all.length)]; }

    private int same(String call, int got, int due) {
        calls.add(call + " = " + due);
        callsLeft--;
        if (got != due && !differs) {
            differs = true;
            wrong++;
            if (wrong < 4) {
                for (String c : calls) System.out.println("  " + c);
                System.out.println(call + " answered " + got + ", the model says " + due);
            }
        }
        return due;
    }

    private boolean ends() { return differs || callsLeft <= LAST_LOOK; }

    private void act(int m, int op, int a, int b, int c) {
        if (ends()) return;
        same("act(" + m + ", " + op + ", " + a + ", " + b + ", " + c + ")", x.act(m, op, a, b, c), y.act(m, op, a, b, c));
    }

    private int register() { return below(12) == 0 ? 7 : below(5); }

    private int odd() { return among(-1, 0, 1, 2, 3, 4, 5, 7, 8, 9, 11, 12, 40, 41, Integer.MIN_VALUE, Integer.MAX_VALUE); }

    private int number() {
        return among(0, 0, 1, 1, 2, 2, 3, 3, -1, 5, 10, 11, 12, 70, 200, -129, 40000, Integer.MIN_VALUE, Integer.MAX_VALUE, 1 << 29);
    }

    private int target(int m) {
        int here = Math.max(0, y.info(m, 1));
        return below(3) == 0 ? below(Math.min(here, 40) + 1) : Math.min(40, here + 1 + below(4));
    }

    /** ACTS that often find what they need: registers 0 to 4 are made early, with likely kinds. */
    private void someAct(int m) {
        int op = among(0, 0, 0, 1, 2, 3, 4, 5, 6, 7, 8, 9, 10, 10, 11, 11, 12, 12, 12, 13, 13, 14, 14, 15, 16, 16, 17, 17,
            18, 19, 20, 20, 20, 21, 21, 22, 23, 23, 23, 23, 23, 24, 25, 25, 26, 27, 27);
        int a = register(), b = register(), c = register();
        switch (op) {
            case 0: b = number(); break;
            case 9: a = target(m); break;
            case 10: b = target(m); break;
            case 11: c = below(5); act(m, 0, b, among(0, 1, 2, 3, 3, 4, -1, -1, -1, 30, 500, 1 << 29), 0); break;
            case 12: b = below(4); break;
            case 16: c = below(4); break;
            case 17: b = below(2); break;
            case 18: c = below(12); break;
            case 19: b = below(12); break;
            case 23: b = among(below(4), below(4), below(4), below(4), below(8), m, -1, 9); break;
            default: break;
        }
        if (below(40) == 0) {
            a = odd();
            b = odd();
            c = odd();
        }
        act(m, op, a, b, c);
    }

    /** A likely meeting of things: a row or cell in 1, a number in 2, and an act that uses both. */
    private void somePattern(int m) {
        switch (below(12)) {
            case 10: act(m, 12, 1, below(4), 0); act(m, 20, 1, 0, 0); act(m, 23, 3, below(6), 1); break;
            case 11: act(m, 20, 0, 0, 0); act(m, 20, 0, 0, 0); act(m, 23, 3, below(6), 0); act(m, 21, 0, 0, 0); break;
            case 6: act(m, 0, 2, 0, 0); act(m, 5 + below(2), 3, 2, 2); break;
            case 7: act(m, 12, 1, below(4), 0); act(m, 21, 1, 0, 0); break;
            case 8: act(m, 0, 3, number(), 0); act(m, 22, 3, 0, 0); break;
            case 9: act(m, 0, 3, -1 - below(2), 0); act(m, 11, 3, 3, below(5)); break;
            case 0: act(m, 0, 2, 1 + below(4), 0); act(m, 11, 1, 2, below(5)); break;
            case 1: act(m, 0, 2, below(4), 0); act(m, 0, 3, number(), 0); act(m, 13, 1, 2, 3); act(m, 14, 3, 1, 2); break;
            case 2: act(m, 12, 1, below(4), 0); act(m, 17, 1, below(2), register()); act(m, 27, 3, 1, 0); break;
            case 3: act(m, 20, 1, 0, 0); if (below(2) == 0) act(m, 21, 1, 0, 0); break;
            case 4: act(m, 0, 2, below(14) - 1, 0); act(m, 25, register(), 2, 0); act(m, 26, register(), 2, 0); break;
            default:
                act(m, 0, 2, 2, 0); act(m, 11, 3, 2, 0); act(m, 11, 1, 2, 4); act(m, 0, 0, below(3), 0);
                act(m, 13, 1, 0, 3); act(m, 24, 1, 0, 0); break;
        }
    }

    private void someHandler(int m) {
        if (ends()) return;
        int from = below(20), to = Math.min(40, from + below(25)), kind = below(2) == 0 ? 0 : below(10), at = below(3) == 0 ? below(41) : target(m);
        if (below(30) == 0) at = odd();
        same("handler(" + m + ", " + from + ", " + to + ", " + kind + ", " + at + ")",
            x.handler(m, from, to, kind, at), y.handler(m, from, to, kind, at));
    }

    /** A few of all readings, by chance: an object has not calls enough to be read whole more than once. */
    private void look() {
        lookAtHoldings();
        for (int i = 0; i < 6 && !ends(); i++) oneReading();
    }

    private void oneReading() {
        int m = below(4) == 0 ? below(12) - 1 : below(Math.max(1, y.told(0))), i = below(6) - 1;
        switch (below(14)) {
            case 0: same("result(" + i + ")", x.result(i), y.result(i)); break;
            case 1: case 2: { int w = below(11) - 1; same("counted(" + w + ")", x.counted(w), y.counted(w)); break; }
            case 3: case 4: { int w = among(-1, below(12), below(12), 40, 98, 99, 100, 101); same("trace(" + w + ")", x.trace(w), y.trace(w)); break; }
            case 5: { int w = below(14) - 1; same("plan(" + w + ")", x.plan(w), y.plan(w)); break; }
            case 6: same("cell(" + i + ")", x.cell(i), y.cell(i)); break;
            case 7: { int w = below(8) - 1; same("told(" + w + ")", x.told(w), y.told(w)); break; }
            case 8: same("left()", x.left(), y.left()); break;
            case 9: same("info(" + m + ", " + i + ")", x.info(m, i), y.info(m, i)); break;
            case 10: same("verify(" + m + ")", x.verify(m), y.verify(m)); break;
            case 11: same("frame(" + i + ")", x.frame(i), y.frame(i)); break;
            default: { int k = below(10) - 1, w = below(4) - 1; same("register(" + k + ", " + w + ")", x.register(k, w), y.register(k, w)); break; }
        }
    }

    private void lookAtHoldings() {
        if (ends()) return;
        int atHand = y.heldAtHand(), held = same("frame(3)", x.frame(3), y.frame(3));
        if (held > atHand) {
            callerHolds++;
            if (atHand > 0) bothHold++;
        }
    }

    private void lookAtAll() {
        for (int w = 0; w < 3; w++) same("result(" + w + ")", x.result(w), y.result(w));
        for (int w = 0; w < 9; w++) same("counted(" + w + ")", x.counted(w), y.counted(w));
        for (int i = 0; i < 20; i++) same("trace(" + i + ")", x.trace(i), y.trace(i));
        for (int i = 98; i < 101; i++) same("trace(" + i + ")", x.trace(i), y.trace(i));
        for (int i = 0; i < 12; i++) same("plan(" + i + ")", x.plan(i), y.plan(i));
        for (int i = -1; i < 5; i++) same("cell(" + i + ")", x.cell(i), y.cell(i));
        for (int w = 0; w < 6; w++) same("told(" + w + ")", x.told(w), y.told(w));
        same("left()", x.left(), y.left());
        for (int m = 0; m < y.told(0); m++) for (int w = 0; w < 4; w++) same("info(" + m + ", " + w + ")", x.info(m, w), y.info(m, w));
        for (int m = 0; m < y.told(0); m++) same("verify(" + m + ")", x.verify(m), y.verify(m));
        for (int w = 0; w < 4; w++) same("frame(" + w + ")", x.frame(w), y.frame(w));
        for (int k = 0; k < 8; k++) for (int w = 0; w < 2; w++) same("register(" + k + ", " + w + ")", x.register(k, w), y.register(k, w));
    }

    /** A WALK that is looked at ahead of each ACT, so that what is far in is seen too. */
    private void walkThrough(int m, int budget) {
        int answer = same("walk(" + m + ", " + budget + ")", x.walk(m, budget), y.walk(m, budget));
        for (int i = 0; i < STEPS_LOOKED_AT && answer == 1 && !ends(); i++) {
            lookAtHoldings();
            oneReading();
            answer = same("step(1)", x.step(1), y.step(1));
        }
        look();
    }

    private void someCall() {
        int m = below(12) == 0 ? odd() : below(Math.max(1, y.told(0)));
        int budget = among(0, 1, 2, 3, 5, 8, 13, 20, 30, 60, 60, 100, 200, 400, 1000, -1, 1001);
        int i = below(3), n = number();
        switch (below(21)) {
            case 0: case 1: case 2: case 3: case 4:
                same("run(" + m + ", " + budget + ")", x.run(m, budget), y.run(m, budget)); look(); break;
            case 5: case 6: case 7:
                same("walk(" + m + ", " + budget + ")", x.walk(m, budget), y.walk(m, budget)); look(); break;
            case 8: case 9: case 10: case 11: {
                int steps = among(1, 1, 1, 2, 3, 5, 50, 1000, 0, 1001);
                same("step(" + steps + ")", x.step(steps), y.step(steps)); look(); break;
            }
            case 12: if (below(3) == 0) { same("drop()", x.drop(), y.drop()); look(); } break;
            case 13: same("argument", x.argument(i, 2, 0), y.argument(i, 2, 0)); break;
            case 14: { int k = below(5) - 1, kind = below(5) - 1; same("argument(" + k + ", " + kind + ", " + n + ")", x.argument(k, kind, n), y.argument(k, kind, n)); break; }
            case 15: same("into(" + i + ")", x.into(i), y.into(i)); look(); break;
            case 16: { int p = below(7) - 1, v = below(12) - 1; same("price(" + p + ", " + v + ")", x.price(p, v), y.price(p, v)); break; }
            case 17: { int at = odd(); same("set(" + at + ", " + n + ")", x.set(at, n), y.set(at, n)); break; }
            case 18: if (below(3) == 0) same("cut(" + m + ")", x.cut(m), y.cut(m)); break;
            case 19: walkThrough(m, budget); break;
            default: if (below(4) == 0) newMember(); else if (y.told(0) > 0) someAct(below(y.told(0))); break;
        }
    }

    /** Makes most of registers 0 to 4 something, so that what follows throws NULL less often. */
    private void prelude(int m) {
        for (int k = 0; k < 5; k++) {
            int how = below(8);
            if (how < 4) act(m, 0, k, below(2) == 0 ? below(4) : number(), 0);
            else if (how < 6) act(m, 12, k, below(4), 0);
            else if (how == 6) { act(m, 0, k, 1 + below(3), 0); act(m, 11, k, k, below(5)); }
        }
    }

    private void newMember() {
        int wants = among(0, 0, 1, 1, 2, 3, -1, 4);
        int m = same("member(" + wants + ")", x.member(wants), y.member(wants));
        if (m < 0) return;
        if (below(4) == 0) {
            somePattern(m);
            return;
        }
        if (below(4) > 0) prelude(m);
        for (int i = below(4) == 0 ? below(3) : 3 + below(14); i > 0; i--) {
            if (below(4) == 0) somePattern(m);
            else someAct(m);
        }
        for (int h = below(5); h > 0; h--) someHandler(m);
    }

    private void go() {
        for (int i = 0; i < 3; i++) newMember();
        for (int k = 0; k < 3; k++) same("argument", x.argument(k, 1, k), y.argument(k, 1, k));
        for (int i = 0; i < MOST_CALLS && !ends(); i++) someCall();
        if (!differs) lookAtAll();
        if (callsLeft < 0) throw new IllegalStateException("more calls than the document promises answers for");
        y.drop();
    }

    /** Made-up runs prove little where they never come: each OP has to have been done and to have thrown all it can. */
    private static int notSeen(int[][] seen) {
        int missing = 0;
        for (int op = 0; op < 28; op++) {
            for (int end : ENDS[op]) {
                if (seen[op][end] < 5) {
                    missing++;
                    System.out.println("OP " + op + " ended by " + end + " only " + seen[op][end] + " times");
                }
            }
        }
        return missing;
    }

    public static void main(String[] args) {
        int[][] seen = new int[28][11];
        for (int i = 0; i < OBJECTS; i++) new ModelTests(i, seen).go();
        wrong += notSeen(seen);
        if (callerHolds < 500 || bothHold < 100) {
            wrong++;
            System.out.println("a caller held only " + callerHolds + " times, both FRAMES " + bothHold + " times");
        }
        System.out.println(wrong == 0 ? "all answers are as due" : wrong + " objects answered otherwise than the model");
        if (wrong != 0) System.exit(1);
    }
}
