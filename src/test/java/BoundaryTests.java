import java.util.ArrayList;
import java.util.List;

/**
 * The document sentence by sentence, in its own order: each one that names a boundary (too small, too large, empty,
 * full, a wrap-around, a refused call) is asked on both sides of it. What is due is written out here by hand.
 */
public final class BoundaryTests extends Asked {
    private static final int[] NO_REGISTER = {MIN, -1, 8, MAX};
    private static final int[] JUNK = {MIN, -8, -7, -6, -1, 0, 1, 2, 3, 4, 5, 6, 7, 8, 12, 28, 40, 41, MAX};

    /** What can be read of an object without changing it. */
    private static List<Integer> state(MarkedSteps x, int members) {
        List<Integer> all = new ArrayList<>();
        for (int w = 0; w < 6; w++) all.add(x.told(w));
        for (int m = 0; m < members; m++) for (int w = 0; w < 4; w++) all.add(x.info(m, w));
        for (int m = 0; m < members; m++) all.add(x.verify(m));
        for (int i = 0; i < 12; i++) all.add(x.plan(i));
        for (int w = 0; w < 3; w++) all.add(x.result(w));
        for (int i = 0; i < 4; i++) all.add(x.cell(i));
        for (int w = 0; w < 9; w++) all.add(x.counted(w));
        for (int i = 0; i < 8; i++) all.add(x.trace(i));
        all.add(x.left());
        for (int w = 0; w < 4; w++) all.add(x.frame(w));
        for (int k = 0; k < 8; k++) for (int w = 0; w < 2; w++) all.add(x.register(k, w));
        return all;
    }

    private static void unchanged(String what, List<Integer> before, List<Integer> behind) {
        for (int i = 0; i < before.size(); i++) due(what + ": reading " + i, behind.get(i), before.get(i));
    }

    // ---- Terms

    /** "Of several refusals the first one here": all that can be refused for more than one reason, within a WALK. */
    private static void refusedWithinAWalk(MarkedSteps x, int none) {
        due("member: OUTSIDE, NO, FULL", x.member(4), OUTSIDE);
        due("member: NO, FULL", x.member(3), NO);
        due("act: UNKNOWN, OUTSIDE, NO", x.act(none, 28, 8, 8, 8), UNKNOWN);
        due("act: UNKNOWN, NO", x.act(none, SET, 0, 0, 0), UNKNOWN);
        due("act: OUTSIDE, NO, FULL", x.act(0, 28, 0, 0, 0), OUTSIDE);
        due("act: OUTSIDE by a register, NO, FULL", x.act(0, SET, 8, 0, 0), OUTSIDE);
        due("act: OUTSIDE by an ACT, NO, FULL", x.act(0, JUMP, 41, 0, 0), OUTSIDE);
        due("act: NO, FULL", x.act(0, SET, 0, 0, 0), NO);
        due("handler: UNKNOWN, OUTSIDE, NO", x.handler(none, 41, 41, 10, 41), UNKNOWN);
        due("handler: UNKNOWN, NO", x.handler(none, 0, 0, 0, 0), UNKNOWN);
        due("handler: OUTSIDE, NO, FULL", x.handler(0, 41, 0, 0, 0), OUTSIDE);
        due("handler: OUTSIDE, NO, FULL", x.handler(0, 0, 41, 0, 0), OUTSIDE);
        due("handler: OUTSIDE, NO, FULL", x.handler(0, 0, 0, 10, 0), OUTSIDE);
        due("handler: OUTSIDE, NO, FULL", x.handler(0, 0, 0, 0, 41), OUTSIDE);
        due("handler: NO, FULL", x.handler(0, 0, 0, 0, 0), NO);
        due("cut: UNKNOWN, NO", x.cut(none), UNKNOWN);
        due("cut: NO", x.cut(0), NO);
        due("price: OUTSIDE, NO", x.price(5, 1), OUTSIDE);
        due("price: OUTSIDE, NO", x.price(0, 10), OUTSIDE);
        due("price: OUTSIDE, NO", x.price(4, 0), OUTSIDE);
        due("price: NO", x.price(4, 9), NO);
        due("info: UNKNOWN, OUTSIDE", x.info(none, 4), UNKNOWN);
        due("set: OUTSIDE, NO", x.set(12, 5), OUTSIDE);
        due("set: NO", x.set(0, 5), NO);
        due("run: UNKNOWN, OUTSIDE, NO", x.run(none, 1001), UNKNOWN);
        due("run: UNKNOWN, NO", x.run(none, 5), UNKNOWN);
        due("run: OUTSIDE, NO", x.run(0, 1001), OUTSIDE);
        due("run: NO", x.run(0, 5), NO);
        due("walk: UNKNOWN, OUTSIDE, NO", x.walk(none, -1), UNKNOWN);
        due("walk: UNKNOWN, NO", x.walk(none, 5), UNKNOWN);
        due("walk: OUTSIDE, NO", x.walk(0, -1), OUTSIDE);
        due("walk: NO", x.walk(0, 5), NO);
        due("into: NO, RESULT is nothing within a WALK", x.into(0), NO);
        due("step: OUTSIDE", x.step(0), OUTSIDE);
        due("step: OUTSIDE", x.step(1001), OUTSIDE);
    }

    /** The same without a WALK, all MEMBERS, and those of MEMBER 0 all ACTS and HANDLERS, being there. */
    private static void refusedWhenFull(MarkedSteps x) {
        due("member: OUTSIDE, FULL", x.member(-1), OUTSIDE);
        due("member: FULL", x.member(0), FULL);
        due("act: UNKNOWN, OUTSIDE", x.act(10, 28, 8, 8, 8), UNKNOWN);
        due("act: OUTSIDE, FULL", x.act(0, -1, 0, 0, 0), OUTSIDE);
        due("act: OUTSIDE by a register, FULL", x.act(0, MOVE, 0, 8, 0), OUTSIDE);
        due("act: FULL", x.act(0, SET, 0, 0, 0), FULL);
        due("handler: UNKNOWN, OUTSIDE", x.handler(10, 41, 0, 0, 0), UNKNOWN);
        due("handler: OUTSIDE, FULL", x.handler(0, 0, 0, 0, -1), OUTSIDE);
        due("handler: FULL", x.handler(0, 0, 0, 0, 0), FULL);
        due("cut: NO, it has none", x.cut(9), NO);
        due("run: UNKNOWN, OUTSIDE", x.run(10, -1), UNKNOWN);
        due("run: OUTSIDE", x.run(0, -1), OUTSIDE);
        due("walk: UNKNOWN, OUTSIDE", x.walk(10, 1001), UNKNOWN);
        due("walk: OUTSIDE", x.walk(0, 1001), OUTSIDE);
        due("step: OUTSIDE, NO", x.step(1001), OUTSIDE);
        due("step: NO", x.step(1000), NO);
        due("frame: OUTSIDE, NO", x.frame(4), OUTSIDE);
        due("frame: NO", x.frame(3), NO);
        due("register: OUTSIDE, NO", x.register(8, 0), OUTSIDE);
        due("register: OUTSIDE, NO", x.register(0, 2), OUTSIDE);
        due("register: NO", x.register(7, 1), NO);
        due("drop: NO", x.drop(), NO);
        due("into: OUTSIDE", x.into(-1), OUTSIDE);
        due("into: OUTSIDE", x.into(2), OUTSIDE);
        due("argument: OUTSIDE", x.argument(3, 1, 9), OUTSIDE);
        due("argument: OUTSIDE", x.argument(0, 3, 9), OUTSIDE);
        due("price: OUTSIDE", x.price(0, 0), OUTSIDE);
        due("set: OUTSIDE", x.set(-1, 9), OUTSIDE);
    }

    private static MarkedSteps full() {
        MarkedSteps x = made(a(SET, 0, 2), a(NOTE, 0, 0), a(ROW, 1, 0, 4), a(ROW, 2, 0, 0), a(SET, 0, 0), a(PUT, 1, 0, 2), a(GIVE, 1));
        for (int i = 7; i < 40; i++) x.act(0, GIVE, 7, 0, 0);
        for (int h = 0; h < 6; h++) x.handler(0, 39, 40, 9, 0);
        for (int m = 1; m < 10; m++) x.member(m % 4);
        x.set(5, -5);
        x.argument(0, 1, 33);
        x.price(4, 2);
        return x;
    }

    private static void refusals() {
        MarkedSteps x = full();
        due("a run ahead of the refusals", x.run(0, 20), 0);
        List<Integer> before = state(x, 4);
        refusedWhenFull(x);
        unchanged("refusals change nothing", before, state(x, 4));
        due("a refused PRICE is as it was", x.price(4, 1), 2);
        due("a refused PRICE is as it was", x.price(0, 1), 1);
        x.act(1, SET, 7, 0, 0);
        x.walk(1, 1);
        due("a refused argument is as it was", x.register(0, 1), 33);

        x = full();
        due("a walk ahead of the refusals", x.walk(0, 20), 1);
        x.step(3);
        before = state(x, 4);
        refusedWithinAWalk(x, 10);
        unchanged("refusals change nothing within a WALK", before, state(x, 4));
        due("the WALK goes on as before", x.step(1000), 0);
        counts("the WALK goes on as before", x, 11, 1, 0, 0, 2, 4, 1, 0, 0);
        due("a PRICE refused within a WALK is as it was", x.price(4, 1), 2);
    }

    /** "NUMBERS (32 bits that wrap)" and the bits that each LANE keeps of one. */
    private static void lanes() {
        int[][] kept = {{0, MIN, MIN}, {0, MAX, MAX}, {0, -1, -1}, {1, 127, 127}, {1, 128, -128}, {1, -128, -128}, {1, -129, 127},
            {1, 255, -1}, {1, 256, 0}, {1, MIN, 0}, {1, MAX, -1}, {2, 32767, 32767}, {2, 32768, 32768}, {2, 65535, 65535}, {2, 65536, 0},
            {2, -1, 65535}, {2, -32768, 32768}, {2, MIN, 0}, {2, MAX, 65535}, {3, MIN, MIN}, {3, MAX, MAX}, {3, -1, -1}, {3, 0, 0}};
        for (int[] one : kept) {
            String what = "LANE " + one[0] + " of " + one[1];
            MarkedSteps x = made(a(SET, 0, 3), a(ROW, 1, 0, one[0]), a(SET, 0, 2), a(SET, 2, one[1]), a(PUT, 1, 0, 2), a(GET, 4, 1, 0),
                a(SET, 0, 0), a(NOTE, 4, 0), a(GIVE, 1));
            due(what, x.run(0, 9), 0);
            due(what + " by GET", x.plan(0), one[2]);
            due(what + " by cell", x.cell(2), one[2]);
            due(what + ", its other cells", x.cell(1), 0);
        }
        int[][] wraps = {{ADD, MAX, 1, MIN}, {ADD, MIN, MIN, 0}, {ADD, MIN, -1, MAX}, {SUB, MIN, 1, MAX}, {SUB, 0, MIN, MIN}, {SUB, MAX, -1, MIN},
            {MUL, MAX, 2, -2}, {MUL, MIN, -1, MIN}, {MUL, 65536, 65536, 0}, {DIV, MIN, -1, MIN}, {DIV, MIN, MAX, -1}, {DIV, -1, 2, 0},
            {REST, MIN, -1, 0}, {REST, MIN, MAX, -1}, {REST, -5, 5, 0}, {LESS, MIN, MAX, 1}, {LESS, MAX, MIN, 0}, {LESS, MIN, MIN, 0}};
        for (int[] one : wraps) {
            gives("wrap " + one[0] + " " + one[1] + " " + one[2], 0, one[3],
                a(SET, 1, one[1]), a(SET, 2, one[2]), a(one[0], 3, 1, 2), a(GIVE, 3));
        }
        int[][] heavy = {{0, MAX, MIN}, {1, MAX, 0}, {1, 1 << 30, MIN + 2}, {2, MAX, 0}, {3, MAX, 7}, {3, -1, 7}, {3, MIN, 9}};
        for (int[] one : heavy) {
            gives("WEIGHT wraps, SORT " + one[0] + " V " + one[1], 0, one[2],
                a(CELL, 0, one[0]), a(SET, 1, one[1]), a(FILL, 0, 0, 1), a(WEIGH, 3, 0), a(GIVE, 3));
        }
    }

    /** "Where the KIND of a CELL is told it is that of its SORT": by result, register, into. */
    private static void kindsTold() {
        int[][] things = {a(SET, 1, 3), a(CELL, 1, 0), a(CELL, 1, 1), a(CELL, 1, 2), a(CELL, 1, 3),
            a(ROW, 1, 0, 0), a(ROW, 1, 0, 1), a(ROW, 1, 0, 2), a(ROW, 1, 0, 3), a(ROW, 1, 0, 4), a(MOVE, 1, 5)};
        for (int kind = 0; kind <= 10; kind++) {
            int told = kind == 10 ? NONE : kind, measure = kind == 10 || kind >= 1 && kind <= 4 ? 0 : 3;
            String what = "KIND " + told;
            MarkedSteps x = made(a(SET, 0, 3), things[kind], a(CELL, 2, 0), a(FILL, 2, 1, 1), a(GIVE, 2));
            x.walk(0, 20);
            x.step(2);
            due(what + " by register", x.register(1, 0), told);
            due(what + " by register", x.register(1, 1), measure);
            x.step(1000);
            due(what + " by into", x.into(0), told);
            due(what + " by result", x.result(0), told);
            due(what + " by result", x.result(1), measure);
            due(what + " by result, no MONITOR is held", x.result(2), 0);
        }
    }

    /** "MEMBERS are numbered from 0 on, 10 ever", "ACTS .. 40 at most", "HANDLERS, 6 at most": each MEMBER has its own. */
    private static void eachMemberFull() {
        MarkedSteps x = new MarkedSteps();
        for (int m = 0; m < 10; m++) {
            due("UNKNOWN ahead of its making", x.info(m, 0), UNKNOWN);
            due("numbered from 0 on", x.member(m % 4), m);
        }
        due("10 ever", x.member(0), FULL);
        for (int m : new int[] {0, 9}) {
            for (int i = 1; i <= 40; i++) due("40 ACTS", x.act(m, SET, 7, i + m, 0), i);
            due("no 41st", x.act(m, SET, 7, 0, 0), FULL);
            for (int h = 1; h <= 6; h++) due("6 HANDLERS", x.handler(m, 0, 40, 0, 0), h);
            due("no seventh", x.handler(m, 0, 40, 0, 0), FULL);
        }
        due("others have none", x.info(1, 1), 0);
        due("others have none", x.info(8, 2), 0);
        x.walk(9, 1);
        due("39 of 40 ACTS", x.step(39), 1);
        due("ahead of the last", x.frame(2), 39);
        due("of this very MEMBER", x.register(7, 1), 39 + 9);
        due("behind the last one it gives nothing", x.step(1), 0);
        due("behind the last one it gives nothing", x.result(0), NONE);
        due("cut of 40", x.cut(9), 39);
        due("no MEMBER goes", x.member(0), FULL);
    }

    /** "REGISTERS 0 to 7: the arguments, then nothing." */
    private static void argumentsThenNothing() {
        for (int wants = 0; wants <= 3; wants++) {
            MarkedSteps x = new MarkedSteps();
            more(x, wants, a(SET, 7, 0));
            for (int k = 0; k < 3; k++) due("argument", x.argument(k, 1, 50 + k), 1);
            due("walk", x.walk(0, 1), 1);
            for (int k = 0; k < 8; k++) due("register " + k + " of " + wants, x.register(k, 0), k < wants ? 0 : NONE);
            for (int k = 0; k < 8; k++) due("register " + k + " of " + wants, x.register(k, 1), k < wants ? 50 + k : 0);
        }
    }

    /** "What MEMBER B gives for c and the registers behind it, as many as it wants (beyond 7: nothing)." */
    private static void registersBeyondSeven() {
        for (int wants = 0; wants <= 3; wants++) {
            for (int first = 0; first <= 7; first++) {
                MarkedSteps x = new MarkedSteps();
                int m = x.member(0);
                for (int k = 0; k < 8; k++) x.act(m, SET, k, 10 + k, 0);
                x.act(m, CALL, 0, 1, first);
                more(x, wants, a(SET, 7, 0));
                x.walk(m, 2);
                due("CALL", x.step(9), 1);
                for (int k = 0; k < 8; k++) {
                    boolean given = k < wants && first + k <= 7;
                    due("c " + first + ", wants " + wants + ", register " + k, x.register(k, 0), given ? 0 : NONE);
                    due("c " + first + ", wants " + wants + ", register " + k, x.register(k, 1), given ? 10 + first + k : 0);
                }
            }
        }
    }

    /** "What of A, B, C is not named is not looked at": neither by act, nor by verify, nor by a run. */
    private static void notNamed() {
        // OP, A, B, C with 99 for what is not named; then what the run answers, KIND and NUMBER of RESULT.
        int[][] acts = {{SET, 6, 9, 99, 0, 0, 9}, {MOVE, 6, 1, 99, 0, 0, 4}, {JUMP, 6, 99, 99, 0, NONE, 0}, {BRANCH, 1, 6, 99, 0, NONE, 0},
            {CELL, 6, 1, 99, 0, 2, 0}, {LENGTH, 6, 2, 99, 0, 0, 4}, {CAST, 0, 4, 99, 0, NONE, 0}, {ENTER, 0, 99, 99, 0, NONE, 0},
            {LEAVE, 0, 99, 99, -16, NONE, 0}, {THROW, 1, 99, 99, -19, NONE, 0}, {GIVE, 1, 99, 99, 0, 0, 4}, {NOTE, 1, 1, 99, 0, NONE, 0},
            {ASK, 6, 1, 99, 0, 0, 77}, {WEIGH, 6, 0, 99, 0, 0, 19}};
        for (int[] one : acts) {
            for (int junk : JUNK) {
                String what = "OP " + one[0] + " with " + junk;
                MarkedSteps x = made(a(CELL, 0, 3), a(SET, 1, 5), a(FILL, 0, 0, 1), a(SET, 1, 4), a(ROW, 2, 1, 2));
                int b = one[2] == 99 ? junk : one[2], c = one[3] == 99 ? junk : one[3];
                x.set(4, 77);
                due(what, x.act(0, one[0], one[1], b, c), 6);
                due(what + ": verify", x.verify(0), NONE);
                x.act(0, GIVE, 6, junk, junk);
                due(what, x.run(0, 50), one[4]);
                due(what, x.result(0), one[5]);
                due(what, x.result(1), one[6]);
                due(what, x.plan(4), one[0] == NOTE ? 4 : 77);
            }
        }
    }

    /** "Registers are looked at in the order of a, b, c, each NULL, then CAST", and what is named behind them. */
    private static void thrownInOrder() {
        int[] cell = a(CELL, 3, 0), zero = a(SET, 4, 0), one = a(SET, 4, 1), below = a(SET, 4, -1), minute = a(ROW, 2, 4, 0);
        for (int op : new int[] {DIV, REST}) {
            ends("NULL of b ahead of ZERO", -11, zero, a(op, 0, 1, 4));
            ends("CAST of b ahead of ZERO", -13, zero, cell, a(op, 0, 3, 4));
            ends("0 by 0", -15, zero, a(op, 0, 4, 4));
            ends("by nothing is not by 0", -11, one, a(op, 0, 4, 1));
            ends("the least by 0", -15, zero, a(SET, 5, MIN), a(op, 0, 5, 4));
        }
        ends("LEAVE: CAST ahead of STATE", -13, zero, minute, a(LEAVE, 2));
        ends("ASK NULL", -11, a(ASK, 0, 1));
        ends("ASK CAST", -13, cell, a(ASK, 0, 3));
        ends("ASK INDEX", -12, a(SET, 4, MIN), a(ASK, 0, 4));
        ends("ASK INDEX", -12, a(SET, 4, MAX), a(ASK, 0, 4));
        ends("NOTE: NULL of a ahead of b", -11, cell, a(NOTE, 1, 3));
        ends("NOTE: CAST of a ahead of b", -13, cell, a(NOTE, 3, 1));
        ends("NOTE: NULL of a ahead of INDEX", -11, below, a(NOTE, 1, 4));
        ends("NOTE: a ROW is no NUMBER", -13, zero, minute, a(NOTE, 2, 4));
        ends("PUT: INDEX in an empty ROW", -12, zero, minute, a(PUT, 2, 4, 4));
        ends("GET: INDEX in an empty ROW", -12, zero, minute, a(GET, 0, 2, 4));
        ends("PUT: the least INDEX", -12, one, minute, a(SET, 5, MIN), a(PUT, 2, 5, 5));
        ends("PUT: the greatest INDEX", -12, one, minute, a(SET, 5, MAX), a(PUT, 2, 5, 5));
        ends("GET: the least INDEX", -12, one, minute, a(SET, 5, MIN), a(GET, 0, 2, 5));
        ends("GET: the greatest INDEX", -12, one, minute, a(SET, 5, MAX), a(GET, 0, 2, 5));
        ends("PUT: NULL of a ahead of b, c", -11, cell, a(PUT, 1, 3, 3));
        ends("PUT: CAST of a ahead of b, c", -13, cell, a(PUT, 3, 1, 1));
        ends("PUT: CAST of b ahead of NULL of c", -13, one, cell, minute, a(PUT, 2, 3, 1));
        ends("PUT: NULL of b ahead of CAST of c", -11, one, cell, minute, a(PUT, 2, 1, 3));
        ends("PUT: CAST of c ahead of INDEX", -13, one, cell, minute, a(PUT, 2, 4, 3));
        ends("PUT, LANE 4: b ahead of c", -11, one, cell, a(ROW, 2, 4, 4), a(PUT, 2, 1, 3));
        ends("PUT, LANE 4: CAST of c ahead of INDEX", -13, one, cell, a(ROW, 2, 4, 4), a(PUT, 2, 4, 3));
        ends("GET: NULL of b ahead of c", -11, cell, a(GET, 0, 1, 3));
        ends("GET: CAST of b ahead of c", -13, cell, a(GET, 0, 3, 1));
        ends("GET: CAST of c ahead of INDEX", -13, one, cell, minute, a(GET, 0, 2, 3));
        ends("FILL: NULL of a ahead of c", -11, cell, a(FILL, 1, 0, 3));
        ends("FILL: CAST of a ahead of c", -13, one, a(FILL, 4, 0, 1));
        ends("FILL of NEXT: c may be nothing", 0, cell, a(FILL, 3, 1, 1));
        ends("FILL of NEXT: c may be a ROW", 0, one, cell, minute, a(FILL, 3, 1, 2));
        ends("FILL of NEXT: a is looked at", -13, one, minute, a(FILL, 2, 1, 4));
        ends("nothing where no THING has to be", 0, a(MOVE, 0, 1), a(SAME, 0, 1, 2), a(IS, 0, 1, 0), a(CAST, 1, 0), a(GIVE, 1));
    }

    /** What throws is not done: registers, THINGS and THE PLAN are as they were. */
    private static void thrownIsNotDone() {
        int[] cell = a(CELL, 0, 0), five = a(SET, 1, 5), fill = a(FILL, 0, 0, 1), row = a(ROW, 2, 1, 0);
        int[][] throwing = {a(FILL, 0, 0, 0), a(FILL, 0, 0, 6), a(ADD, 0, 0, 1), a(ADD, 1, 1, 6), a(ROW, 0, 6, 0), a(GET, 0, 2, 1), a(PUT, 2, 1, 1),
            a(LENGTH, 0, 1), a(FIELD, 1, 1, 0), a(ASK, 0, 0), a(WEIGH, 1, 1), a(CALL, 1, 9, 0), a(LEAVE, 0), a(CAST, 1, 1), a(NOTE, 1, 0)};
        for (int[] one : throwing) {
            String what = "OP " + one[0] + " that threw";
            MarkedSteps x = made(cell, five, fill, row, one, a(SET, 6, 1), a(GIVE, 0));
            x.handler(0, 4, 5, 0, 5);
            x.set(5, 50);
            x.walk(0, 20);
            due(what, x.step(5), 1);
            due(what + ": a HANDLER was gone to", x.counted(3), 1);
            due(what + ": register 0", x.register(0, 0), 1);
            due(what + ": V", x.register(0, 1), 5);
            due(what + ": register 1", x.register(1, 0), 0);
            due(what + ": register 1", x.register(1, 1), 5);
            due(what + ": register 2", x.register(2, 0), 5);
            due(what + ": register 2", x.register(2, 1), 5);
            due(what + ": THE PLAN", x.plan(5), 50);
        }
        MarkedSteps x = made(five, a(ROW, 2, 1, 0), a(SET, 1, -1), a(PUT, 2, 1, 1), a(GIVE, 2));
        x.handler(0, 3, 4, 2, 4);
        due("PUT that threw INDEX", x.run(0, 20), 0);
        for (int i = 0; i < 5; i++) due("PUT that threw INDEX", x.cell(i), 0);
    }

    /** "DEEP: a CALL with 12 FRAMES": the twelfth may be, and may be again when it is over. */
    private static void deep() {
        MarkedSteps x = new MarkedSteps();
        more(x, 1, a(SET, 1, 1), a(SUB, 0, 0, 1), a(BRANCH, 0, 4), a(GIVE, 1), a(CALL, 2, 0, 0), a(CALL, 3, 0, 0), a(ADD, 2, 2, 3), a(GIVE, 2));
        x.argument(0, 1, 2);
        due("two FRAMES, twice", x.run(0, 20), 0);
        counts("two FRAMES, twice", x, 3, 3, 0, 0, 0, 0, 2);
        due("two FRAMES, twice", x.result(1), 2);

        x = new MarkedSteps();
        more(x, 1, a(SET, 1, 1), a(SUB, 0, 0, 1), a(BRANCH, 0, 4), a(GIVE, 1), a(CALL, 2, 0, 0), a(GIVE, 2));
        x.argument(0, 1, 12);
        due("12 FRAMES", x.run(0, 12), 0);
        due("12 FRAMES", x.counted(6), 12);
        x.argument(0, 1, 13);
        due("a CALL with 12 FRAMES, DEEP ahead of its entry", x.run(0, 12), -17);
        counts("a CALL with 12 FRAMES", x, 12, 12, 0, 0, 0, 0, 12);

        x = made(a(CALL, 0, 0, 0), a(CALL, 1, 1, 0), a(GIVE, 7));
        more(x, 0, a(SET, 0, 0));
        x.handler(0, 0, 1, 7, 2);
        due("DEEP is caught by the twelfth FRAME; the eleventh may CALL again", x.run(0, 24), 0);
        counts("DEEP is caught by the twelfth FRAME; each other one CALLS again", x, 24, 23, 0, 1, 0, 0, 12);
        x = made(a(CALL, 0, 1, 0), a(CALL, 0, 1, 0), a(SET, 0, 0));
        more(x, 0, a(CALL, 0, 1, 0));
        x.handler(0, 0, 1, 7, 1);
        due("11 more FRAMES, gone, 11 more again", x.run(0, 99), -17);
        counts("11 more FRAMES, gone, 11 more again", x, 24, 23, 0, 1, 0, 0, 12);
    }

    /** "FROM up to ahead of TO", "a KIND (0: any)", "the first HANDLER of its FRAME that has it". */
    private static void handlerBounds() {
        for (int thrower = 0; thrower < 6; thrower++) {
            MarkedSteps x = new MarkedSteps();
            int m = x.member(1);
            for (int i = 0; i < 6; i++) x.act(m, i == thrower ? THROW : SET, i == thrower ? 0 : 1, 0, 0);
            x.argument(0, 1, 3);
            x.handler(m, 2, 4, 0, 40);
            due("FROM 2 TO 4, thrown by " + thrower, x.run(m, 9), thrower == 2 || thrower == 3 ? 0 : -19);
        }
        for (int from = 0; from <= 2; from++) {
            for (int to = 0; to <= 2; to++) {
                MarkedSteps x = made(a(SET, 0, 3), a(THROW, 0));
                x.handler(0, from, to, 0, 40);
                due("FROM " + from + " TO " + to, x.run(0, 9), from <= 1 && to == 2 ? 0 : -19);
            }
        }
        for (int kind = 0; kind <= 9; kind++) {
            MarkedSteps x = made(a(SET, 0, 0), a(DIV, 0, 0, 0));
            x.handler(0, 0, 40, kind, 40);
            due("ZERO and a HANDLER of KIND " + kind, x.run(0, 9), kind == 0 || kind == 5 ? 0 : -15);
            x = made(a(SET, 0, 5), a(THROW, 0));
            x.handler(0, 0, 40, kind, 40);
            due("OWN with the NUMBER 5 and a HANDLER of KIND " + kind, x.run(0, 9), kind == 0 || kind == 9 ? 0 : -19);
        }
        MarkedSteps x = made(a(SET, 0, 5), a(THROW, 0), a(SET, 1, 0), a(SET, 1, 1), a(SET, 1, 2));
        x.handler(0, 1, 2, 8, 2);
        x.handler(0, 1, 2, 0, 3);
        x.handler(0, 1, 2, 9, 4);
        x.walk(0, 9);
        x.step(2);
        due("the first that has it, by numbers", x.frame(2), 3);
        x = made(a(SET, 0, 5), a(THROW, 0));
        for (int i = 2; i < 39; i++) x.act(0, SET, 1, 0, 0);
        x.act(0, GIVE, 7, 0, 0);
        for (int h = 0; h < 5; h++) x.handler(0, 0, 40, 1 + h, 40);
        x.handler(0, 0, 40, 9, 39);
        due("the sixth HANDLER, the fortieth ACT", x.run(0, 9), 0);
        due("the sixth HANDLER, the fortieth ACT", x.result(1), 5);
    }

    /** "Register 7 becomes the NUMBER of the KIND (of OWN: its NUMBER), and AT is next." */
    private static void caught() {
        for (int n : new int[] {MIN, -1, 0, 9, MAX}) {
            MarkedSteps x = made(a(SET, 0, n), a(SET, 1, 11), a(THROW, 0), a(SET, 2, 0), a(GIVE, 7));
            x.handler(0, 2, 3, 9, 4);
            x.walk(0, 2);
            x.step(2);
            due("ahead of it", x.register(7, 0), NONE);
            due("one ACT", x.step(1), 1);
            due("AT is next", x.frame(2), 4);
            due("register 7", x.register(7, 0), 0);
            due("register 7 of OWN", x.register(7, 1), n);
            due("register 0 is as it was", x.register(0, 1), n);
            due("register 1 is as it was", x.register(1, 1), 11);
            due("register 2 is as it was", x.register(2, 0), NONE);
            traces("the KIND, not the NUMBER", x, 100, 9);
        }
        MarkedSteps x = made(a(CELL, 7, 2), a(THROW, 7), a(THROW, 7), a(GIVE, 7));
        x.handler(0, 1, 2, 0, 2);
        x.handler(0, 2, 3, 0, 3);
        due("thrown by register 7 itself, then again", x.run(0, 9), 0);
        due("thrown by register 7 itself, then again", x.result(1), 3);
        traces("CAST, then OWN", x, 100, 3, 9);
        x = made(a(SET, 0, 6), a(THROW, 0), a(SET, 1, 0), a(DIV, 1, 1, 1));
        x.handler(0, 0, 40, 9, 2);
        due("a HANDLER keeps nothing of another KIND", x.run(0, 9), -15);
        traces("a HANDLER keeps nothing of another KIND", x, 100, 9);
    }

    /** "Without one the FRAME is over, and the CALL throws it": through FRAMES that have HANDLERS for something else. */
    private static void thrownThroughFrames() {
        MarkedSteps x = made(a(SET, 0, 1), a(CALL, 1, 1, 0), a(SET, 2, 2), a(GIVE, 7));
        more(x, 1, a(CELL, 1, 0), a(ENTER, 1), a(CALL, 2, 2, 0), a(SET, 3, 3));
        more(x, 1, a(CELL, 1, 0), a(ENTER, 1), a(ENTER, 1), a(SET, 2, -40), a(THROW, 2));
        x.handler(0, 1, 2, 9, 3);
        x.handler(1, 2, 3, 8, 3);
        x.handler(1, 3, 4, 0, 3);
        x.handler(1, 0, 2, 0, 3);
        x.handler(2, 4, 5, 1, 0);
        due("caught two FRAMES farther out", x.run(0, 20), 0);
        due("with its NUMBER", x.result(1), -40);
        traces("one HANDLER alone", x, 100, 101, 102, 9);
        counts("one HANDLER alone", x, 6, 3, 0, 1, 2, 0, 3, 3, 3);
        x.walk(0, 20);
        due("to the THROW", x.step(9), 1);
        due("three FRAMES", x.frame(0), 3);
        due("over with the ACT that threw", x.step(1), 1);
        due("one FRAME", x.frame(0), 1);
        due("at the HANDLER's AT", x.frame(2), 3);
        due("a of the CALL is as it was", x.register(1, 0), NONE);
        due("none is held any more", x.frame(3), 0);
    }

    /** "LEAVE, and the FRAME does not hold it": as often as it entered and no more. */
    private static void monitorBounds() {
        for (int entered = 0; entered <= 3; entered++) {
            for (int left = 0; left <= 4; left++) {
                MarkedSteps x = new MarkedSteps();
                int m = x.member(0);
                x.act(m, CELL, 0, 0, 0);
                for (int i = 0; i < entered; i++) x.act(m, ENTER, 0, 0, 0);
                for (int i = 0; i < left; i++) x.act(m, LEAVE, 0, 0, 0);
                x.act(m, GIVE, 0, 0, 0);
                String what = entered + " times entered, left " + left + " times";
                due(what, x.run(m, 9), left > entered ? -16 : 0);
                due(what, x.counted(7), entered);
                due(what, x.counted(8), left > entered ? 0 : entered - left);
                due(what + ": free", x.result(2), 0);
            }
        }
        ends("another CELL's MONITOR", -16, a(CELL, 0, 0), a(CELL, 1, 0), a(ENTER, 0), a(LEAVE, 1));
        MarkedSteps x = made(a(CELL, 0, 0), a(CALL, 1, 1, 0), a(LEAVE, 0));
        more(x, 1, a(ENTER, 0), a(GIVE, 0));
        due("what a FRAME that is over held is not its caller's", x.run(0, 9), -16);
        counts("what a FRAME that is over held", x, 3, 2, 0, 0, 1, 0, 2, 1, 1);
    }

    // ---- STEPS

    private static void drainTo(MarkedSteps x, int kept) {
        int loop = x.told(0) - 1;
        for (int i = 0; i < 6 && x.left() > kept; i++) x.run(loop, Math.min(1000, x.left() - kept));
        due("THE HOUSE has left", x.left(), kept);
    }

    /** MEMBER 0 has what is paid for, 1 is empty, 2 throws, 3 goes round until it is stopped. */
    private static MarkedSteps payer(int[][] acts, int[] handler) {
        MarkedSteps x = made(acts);
        x.member(0);
        more(x, 0, a(THROW, 7));
        more(x, 0, a(JUMP, 0));
        if (handler != null) x.handler(0, handler[0], handler[1], handler[2], handler[3]);
        return x;
    }

    private static void priced(MarkedSteps x, int[] prices) {
        for (int p = 0; p < 5; p++) x.price(p, prices[p]);
    }

    /** "What would take more than either has left takes nothing": at the BUDGET's end and at THE HOUSE's. */
    private static void paid(String what, int[] prices, int first, int last, int[][] acts, int[] handler) {
        int all = first + last;
        MarkedSteps x = payer(acts, handler);
        priced(x, prices);
        due(what + ": just enough", x.run(0, all), 0);
        due(what + ": its STEPS", x.counted(0), all);
        due(what + ": left", x.left(), 6000 - all);
        due(what + ": one too few", x.run(0, all - 1), STOPPED);
        due(what + ": takes nothing", x.counted(0), first);
        due(what + ": left", x.left(), 6000 - all - first);
        x = payer(acts, handler);
        drainTo(x, all);
        priced(x, prices);
        due(what + ": THE HOUSE has just enough", x.run(0, 1000), 0);
        due(what + ": nothing is left", x.left(), 0);
        x = payer(acts, handler);
        drainTo(x, all - 1);
        priced(x, prices);
        due(what + ": THE HOUSE has one too few", x.walk(0, 1000), first == 0 ? STOPPED : 1);
        due(what + ": THE HOUSE has one too few", x.step(1000), first == 0 ? NO : STOPPED);
        due(what + ": takes nothing", x.left(), last - 1);
        due(what + ": takes nothing", x.counted(0), first);
    }

    private static void eachIsPaid() {
        for (int[] p : new int[][] {{1, 1, 1, 1, 1}, {9, 9, 9, 9, 9}, {2, 3, 5, 7, 4}, {5, 2, 1, 3, 8}}) {
            int entry = p[0], back = p[1], handler = p[2], making = p[3], cell = p[4];
            paid("the first entry", p, 0, entry, new int[][] {a(SET, 0, 0)}, null);
            paid("an entry by CALL", p, entry, entry, new int[][] {a(CALL, 0, 1, 0)}, null);
            for (int sort = 0; sort < 4; sort++) {
                int bodies = sort == 3 ? 3 : sort == 0 ? 1 : 2;
                paid("the last body of WEIGHT", p, entry + making + (bodies - 1) * entry, entry,
                    new int[][] {a(CELL, 0, sort), a(WEIGH, 0, 0)}, null);
            }
            paid("JUMP back by one", p, entry, back, new int[][] {a(JUMP, 2), a(JUMP, 40), a(JUMP, 1)}, null);
            paid("BRANCH back by one", p, entry, back, new int[][] {a(SET, 0, 1), a(JUMP, 3), a(JUMP, 40), a(BRANCH, 0, 2)}, null);
            paid("a HANDLER ahead", p, entry, handler, new int[][] {a(THROW, 7), a(SET, 0, 0)}, new int[] {0, 1, 1, 1});
            paid("a HANDLER behind the last", p, entry, handler, new int[][] {a(THROW, 7)}, new int[] {0, 1, 0, 40});
            paid("a HANDLER back is no back jump", p, entry, handler, new int[][] {a(JUMP, 2), a(JUMP, 40), a(THROW, 7)}, new int[] {2, 3, 0, 1});
            paid("a caller's HANDLER", p, 2 * entry, handler, new int[][] {a(CALL, 0, 2, 0)}, new int[] {0, 1, 0, 40});
            paid("a CELL", p, entry, making, new int[][] {a(CELL, 0, 0)}, null);
            for (int lane = 0; lane < 5; lane++) {
                paid("a ROW without cells", p, entry, making, new int[][] {a(SET, 0, 0), a(ROW, 0, 0, lane)}, null);
                paid("a ROW of 7", p, entry, making + 7 * cell, new int[][] {a(SET, 0, 7), a(ROW, 0, 0, lane)}, null);
            }
        }
    }

    /** "Behind NONE and DEEP", "behind what the ACT throws", "behind NULL, CAST, SIZE": what throws is not paid for. */
    private static void thrownIsNotPaid() {
        int[] cell = a(CELL, 1, 0), below = a(SET, 1, -1);
        notPaid("ROW NULL", 1, -11, a(ROW, 0, 1, 0));
        notPaid("ROW CAST", 2, -13, cell, a(ROW, 0, 1, 0));
        notPaid("ROW SIZE", 1, -14, below, a(ROW, 0, 1, 0));
        notPaid("ROW SIZE, the least", 1, -14, a(SET, 1, MIN), a(ROW, 0, 1, 3));
        notPaid("BRANCH back NULL", 1, -11, a(BRANCH, 1, 0));
        notPaid("BRANCH back CAST", 2, -13, cell, a(BRANCH, 1, 0));
        notPaid("CALL NONE", 1, -18, a(CALL, 0, 1, 0));
        notPaid("CALL NONE", 1, -18, a(CALL, 0, -1, 0));
        notPaid("CALL DEEP", 12, -17, a(CALL, 0, 0, 0));
        notPaid("WEIGH NULL", 1, -11, a(WEIGH, 0, 1));
        notPaid("WEIGH CAST", 1, -13, below, a(WEIGH, 0, 1));
        MarkedSteps x = made(a(SET, 0, 0), a(BRANCH, 0, 0), a(JUMP, 3), a(SET, 0, 1), a(BRANCH, 0, 5));
        due("BRANCH back that does not go, JUMP and BRANCH ahead", x.run(0, 1), 0);
        counts("none of them is a back jump", x, 1, 1, 0);
        for (int n : new int[] {MIN, -1, 1, MAX}) {
            x = made(a(JUMP, 2), a(JUMP, 40), a(SET, 0, n), a(BRANCH, 0, 1));
            due("BRANCH goes if it is not 0: " + n, x.run(0, 2), 0);
            due("BRANCH goes if it is not 0: " + n, x.counted(2), 1);
        }
        ends("a ROW as large as can be", STOPPED, a(SET, 0, MAX), a(ROW, 0, 0, 0));
        x = made(a(SET, 0, MAX), a(ROW, 0, 0, 4));
        priced(x, new int[] {1, 1, 1, 9, 9});
        x.handler(0, 0, 40, 0, 40);
        due("its price does not wrap", x.run(0, 1000), STOPPED);
        counts("its price does not wrap", x, 1, 1, 0, 0, 0, 0);
        for (int n : new int[] {1 << 29, 1 << 30, 477218589, 954437177, 1431655766}) {
            x = made(a(SET, 0, n), a(ROW, 0, 0, 0));
            for (int p = 1; p <= 9; p++) {
                x.price(4, p);
                due("a price of " + n + " cells does not wrap", x.run(0, 1000), STOPPED);
            }
        }
    }

    private static void notPaid(String what, int budget, int want, int[]... acts) {
        MarkedSteps x = made(acts);
        due(what + " with no STEP more", x.run(0, budget), want);
        due(what + ": STEPS", x.counted(0), budget);
        due(what + ": left", x.left(), 6000 - budget);
        due(what + ": it threw", x.told(3), 1);
    }

    /** "THE HOUSE has 6000 STEPS for all runs and walks together." */
    private static void house() {
        MarkedSteps x = made(a(JUMP, 0));
        more(x, 0, a(SET, 0, 1));
        for (int i = 1; i <= 5; i++) {
            due("a walk", x.walk(0, 1000), 1);
            due("a thousand STEPS", x.step(i == 1 ? 999 : 1000), i == 1 ? 1 : STOPPED);
            due("left", x.left(), 6000 - 1000 * i);
            if (i == 1) due("paused with nothing left of its BUDGET", x.drop(), 1);
        }
        due("a run", x.run(0, 999), STOPPED);
        due("one is left", x.left(), 1);
        due("the last one", x.run(1, 1000), 0);
        due("none is left", x.left(), 0);
        due("no entry any more", x.run(1, 1000), STOPPED);
        due("no entry any more", x.walk(1, 1), STOPPED);
        due("no BUDGET either", x.run(1, 0), STOPPED);
        due("never below 0", x.left(), 0);
        due("FRAMES that began", x.info(1, 3), 1);
        due("stopped", x.told(2), 9);
        due("UNKNOWN still", x.run(2, 5), UNKNOWN);
        due("OUTSIDE still", x.run(0, 1001), OUTSIDE);
    }

    /** The STOP: "no HANDLER keeps it; all FRAMES are over, THE PLAN is as it was ahead of the run". */
    private static void stopped() {
        for (int way = 0; way < 3; way++) {
            MarkedSteps x = made();
            int m = more(x, 3, a(SET, 4, 8), a(NOTE, 0, 4), a(ENTER, 2), a(CALL, 3, 2, 0), a(GIVE, 0));
            more(x, 3, a(SET, 4, 11), a(NOTE, 0, 4), a(ENTER, 2), a(ENTER, 2), a(JUMP, 4));
            int cell = more(x, 0, a(CELL, 0, 3), a(GIVE, 0)), leaves = more(x, 3, a(LEAVE, 2));
            for (int h = 1; h <= 2; h++) x.handler(h, 0, 40, 0, 40);
            x.set(8, 80);
            x.set(11, MIN);
            x.run(cell, 9);
            x.argument(0, 1, 4);
            x.argument(2, 2, 0);
            if (way == 0) due("a run", x.run(m, 5), STOPPED);
            else due("a walk", x.walk(m, 5), 1);
            if (way > 0) due("in two FRAMES", x.step(8), 1);
            if (way > 0) due("THE PLAN on the way", x.plan(11), 4);
            if (way > 0) due("holdings on the way", x.frame(3), 3);
            if (way == 1) due("step", x.step(1000), STOPPED);
            if (way == 2) due("drop", x.drop(), 1);
            due("THE PLAN", x.plan(8), 80);
            due("THE PLAN", x.plan(11), MIN);
            due("no WALK", x.told(5), 0);
            due("stopped", x.told(2), 1);
            traces("no HANDLER", x, 101, 102);
            counts("no HANDLER", x, way == 2 ? 2 : 5, 2, way == 2 ? 0 : 3, 0, 0, 0, 2, 3, 3);
            due("RESULT is nothing", x.result(0), NONE);
            due("its MONITOR is free", x.run(leaves, 5), -16);
            due("it may change again", x.set(8, 1), 80);
        }
    }

    /** "100 at most, what is more is not kept": FRAMES and HANDLERS together. */
    private static void traceBounds() {
        for (int calls : new int[] {98, 99, 100, 101}) {
            MarkedSteps x = new MarkedSteps();
            more(x, 1, a(SET, 1, 1), a(CALL, 2, 1, 0), a(SUB, 0, 0, 1), a(BRANCH, 0, 1));
            x.member(0);
            x.argument(0, 1, calls);
            due("run", x.run(0, 1000), 0);
            due("entries", x.counted(1), calls + 1);
            for (int i : new int[] {0, 1, 98, 99, 100, 101, MIN, -1, MAX}) {
                due(calls + " CALLS, entry " + i, x.trace(i), i < 0 || i > calls || i >= 100 ? NONE : i == 0 ? 100 : 101);
            }
        }
        MarkedSteps x = made(a(CALL, 0, 9, 0));
        x.handler(0, 0, 1, 0, 0);
        due("only HANDLERS", x.run(0, 150), STOPPED);
        due("HANDLERS gone to", x.counted(3), 149);
        due("the hundredth", x.trace(99), 8);
        due("no more", x.trace(100), NONE);
        x.run(0, 3);
        traces("of the latest run", x, 100, 8, 8);
        x.walk(0, 2);
        traces("of the walk", x, 100);
        x.step(1);
        traces("of the walk", x, 100, 8);
        x.drop();
        traces("of the walk that ended", x, 100, 8);
        x = made(a(CELL, 0, 3), a(WEIGH, 0, 0));
        x.run(0, 9);
        traces("bodies of WEIGHT are no FRAMES", x, 100);
        due("nor deep", x.counted(6), 1);
        x = new MarkedSteps();
        for (int m = 0; m < 10; m++) more(x, 0, a(CALL, 0, m + 1, 0));
        due("through all MEMBERS", x.run(0, 99), -18);
        traces("100 and its MEMBER", x, 100, 101, 102, 103, 104, 105, 106, 107, 108, 109);
    }

    // ---- promises

    /** Promise 3: "a register that is named (a, b, c above) is not 0 to 7", by each OP that names one. */
    private static void namedRegisters() {
        String[] named = {"a", "ab", "abc", "abc", "abc", "abc", "abc", "abc", "abc", "", "a", "ab", "a", "abc", "abc", "ab", "ab", "ac",
            "ab", "a", "a", "a", "a", "ac", "a", "ab", "ab", "ab"};
        for (int op = 0; op < 28; op++) {
            MarkedSteps x = new MarkedSteps();
            x.member(0);
            int n = 0;
            for (int place = 0; place < 3; place++) {
                if (named[op].indexOf("abc".charAt(place)) < 0) continue;
                for (int v : NO_REGISTER) due("OP " + op + " names " + v, x.act(0, op, place == 0 ? v : 0, place == 1 ? v : 0, place == 2 ? v : 0), OUTSIDE);
                for (int v = 0; v < 8; v++) due("OP " + op + " names " + v, x.act(0, op, place == 0 ? v : 0, place == 1 ? v : 0, place == 2 ? v : 0), ++n);
            }
        }
        MarkedSteps x = new MarkedSteps();
        x.member(0);
        int[] members = {MIN, -1, 0, 9, 10, MAX};
        for (int i = 0; i < 6; i++) due("CALL of whatever MEMBER", x.act(0, CALL, 7, members[i], 7), i + 1);
    }

    /** Promise 5: the last ACT goes and comes again; HANDLERS stay. */
    private static void cutAndMore() {
        MarkedSteps x = made(a(SET, 0, 4), a(THROW, 0), a(GIVE, 7));
        x.handler(0, 1, 2, 0, 2);
        due("caught", x.run(0, 9), 0);
        due("caught", x.result(1), 4);
        due("cut", x.cut(0), 2);
        due("its AT is behind the last now", x.run(0, 9), 0);
        due("its AT is behind the last now", x.result(0), NONE);
        due("cut", x.cut(0), 1);
        due("cut", x.cut(0), 0);
        due("no ACTS", x.cut(0), NO);
        due("no ACTS", x.info(0, 1), 0);
        due("HANDLERS stay", x.info(0, 2), 1);
        due("it runs without ACTS", x.run(0, 1), 0);
        due("act", x.act(0, SET, 0, 6, 0), 1);
        due("act", x.act(0, THROW, 0, 0, 0), 2);
        due("act", x.act(0, GIVE, 7, 0, 0), 3);
        due("the HANDLER has what is new", x.run(0, 9), 0);
        due("the HANDLER has what is new", x.result(1), 6);
    }

    /** Promise 6: each PRICE, 1 to 9, and what it was. */
    private static void priceBounds() {
        MarkedSteps x = new MarkedSteps();
        for (int kind = 0; kind < 5; kind++) {
            due("1 at first", x.price(kind, 9), 1);
            due("9", x.price(kind, 1), 9);
            due("0", x.price(kind, 0), OUTSIDE);
            due("10", x.price(kind, 10), OUTSIDE);
            for (int n : WRONG) due("wrong", x.price(kind, n), OUTSIDE);
            due("as it was", x.price(kind, 2 + kind), 1);
        }
        for (int kind = 0; kind < 5; kind++) due("each its own", x.price(kind, 1), 2 + kind);
        due("no such PRICE", x.price(5, 1), OUTSIDE);
        due("no such PRICE", x.price(-1, 1), OUTSIDE);
    }

    private static void verified(String what, int want, MarkedSteps x) { due("verify: " + what, x.verify(0), want); }

    /** Promise 7: "on some way": ways that go back, one behind the other, by JUMP, BRANCH, HANDLERS. */
    private static void verifyWays() {
        MarkedSteps x = new MarkedSteps();
        more(x, 1, a(BRANCH, 0, 9), a(SET, 1, 1), a(MOVE, 2, 1), a(GIVE, 2), a(GIVE, 0), a(JUMP, 2), a(GIVE, 0), a(JUMP, 5), a(GIVE, 0), a(JUMP, 7));
        verified("three JUMPS back", 2, x);
        x = new MarkedSteps();
        more(x, 1, a(BRANCH, 0, 9), a(SET, 1, 1), a(MOVE, 2, 1), a(GIVE, 2), a(GIVE, 0), a(BRANCH, 0, 2), a(GIVE, 0), a(BRANCH, 0, 5), a(GIVE, 0),
            a(BRANCH, 0, 7), a(GIVE, 0));
        verified("three BRANCHES back", 2, x);
        x = new MarkedSteps();
        more(x, 1, a(BRANCH, 0, 9), a(SET, 1, 1), a(MOVE, 2, 1), a(GIVE, 2), a(GIVE, 0), a(GIVE, 0), a(GIVE, 0), a(GIVE, 0), a(GIVE, 0), a(GIVE, 0));
        verified("no way back", NONE, x);
        x.handler(0, 9, 10, 1, 7);
        x.handler(0, 7, 8, 2, 5);
        verified("two HANDLERS back", NONE, x);
        x.handler(0, 5, 6, 3, 2);
        verified("three HANDLERS back", 2, x);

        x = made(a(JUMP, 38));
        for (int i = 1; i < 38; i++) x.act(0, i == 1 ? MOVE : JUMP, i == 1 ? 0 : i - 1, 3, 0);
        x.act(0, SET, 5, 1, 0);
        x.act(0, JUMP, 37, 0, 0);
        verified("as many JUMPS back as there can be", 1, x);
        x.cut(0);
        x.cut(0);
        x.act(0, SET, 3, 1, 0);
        x.act(0, JUMP, 37, 0, 0);
        verified("it is made on the only way", NONE, x);
    }

    /** An ACT 3 of this OP, behind three that make registers 0 to 2; it makes register 5 if it makes any. */
    private static MarkedSteps withOp(int op, int target) {
        boolean makes = "1111111110011011101000010011".charAt(op) == '1';
        MarkedSteps x = made(a(SET, 0, 1), a(SET, 1, 1), a(SET, 2, 1));
        due("ACT 3", x.act(0, op, op == JUMP ? target : makes ? 5 : 0, op == BRANCH ? target : 1, 2), 4);
        return x;
    }

    /** Promise 7: "going on" behind each OP but JUMP, GIVE and THROW, and a HANDLER's AT "from each ACT". */
    private static void verifyEachOpsWays() {
        for (int op = 0; op < 28; op++) {
            MarkedSteps x = withOp(op, 5);
            x.act(0, GIVE, 6, 0, 0);
            verified("going on behind OP " + op, op == JUMP || op == THROW || op == GIVE ? NONE : 4, x);
            for (int kind = 0; kind <= 9; kind++) {
                x = withOp(op, 40);
                more4(x, a(GIVE, 0), a(GIVE, 6), a(GIVE, 5));
                verified("without a HANDLER, OP " + op, NONE, x);
                x.handler(0, 3, 4, kind, 5);
                verified("to the HANDLER's AT from OP " + op, 5, x);
                x = withOp(op, 40);
                more4(x, a(GIVE, 0), a(GIVE, 6), a(GIVE, 5), a(GIVE, 7));
                x.handler(0, 3, 4, kind, 7);
                verified("register 7 is made as OP " + op + " throws", NONE, x);
                x.handler(0, 3, 4, kind, 6);
                verified("what OP " + op + " makes is not", 6, x);
            }
        }
        for (int none : new int[] {MIN, -1, 1, MAX}) {
            MarkedSteps x = made(a(CALL, 0, none, 0), a(GIVE, 1));
            verified("going on behind a CALL of no MEMBER " + none, 1, x);
        }
    }

    /** ACTS 4 and on of MEMBER 0. */
    private static void more4(MarkedSteps x, int[]... acts) {
        for (int i = 0; i < acts.length; i++) due("an act that fits", x.act(0, acts[i][0], acts[i][1], acts[i][2], acts[i][3]), 5 + i);
    }

    /** Promise 7: where nothing is, and what stands behind the last ACT. */
    private static void verifyEdges() {
        MarkedSteps x = new MarkedSteps();
        due("no MEMBER", x.verify(0), UNKNOWN);
        x.member(3);
        verified("no ACTS", NONE, x);
        for (int k = 0; k < 8; k++) x.act(0, GIVE, k, 0, 0);
        verified("what is behind GIVE is not come to", NONE, x);
        for (int wants = 0; wants <= 3; wants++) {
            for (int k = 0; k < 8; k++) {
                x = new MarkedSteps();
                more(x, wants, a(GIVE, k));
                verified("register " + k + " of " + wants, k < wants ? NONE : 0, x);
            }
        }
        x = made(a(SET, 0, 1), a(BRANCH, 0, 40), a(JUMP, 3));
        x.handler(0, 0, 40, 0, 40);
        verified("behind the last nothing looks", NONE, x);
        x.act(0, GIVE, 7, 0, 0);
        verified("now there is one", 3, x);
        x.cut(0);
        verified("and now not", NONE, x);
        for (int from = 0; from <= 5; from++) {
            for (int to = 0; to <= 5; to++) {
                MarkedSteps y = made(a(SET, 0, 1), a(SET, 1, 1), a(SET, 2, 1), a(GIVE, 0), a(GIVE, 1));
                y.handler(0, from, to, 0, 4);
                boolean early = from < to && from <= 1;
                due("verify: HANDLER from " + from + " to " + to, y.verify(0), early ? 4 : NONE);
            }
        }
        for (int first = 0; first < 8; first++) {
            for (int wants = 0; wants <= 3; wants++) {
                x = made(a(SET, 7, 1), a(CALL, 0, 1, first));
                x.member(wants);
                boolean all = wants == 0 || first == 7;
                verified("CALL with c " + first + " of " + wants, all ? NONE : 1, x);
            }
        }
        x = made(a(CALL, 0, 0, 0));
        verified("CALL of itself, which wants none", NONE, x);
        x = made(a(CALL, 0, 10, 0), a(CALL, 0, MIN, 1), a(CALL, 0, MAX, 2), a(CALL, 0, -1, 3));
        verified("CALL of none", NONE, x);
    }

    /** Promise 11: "RESULT as it is now", whatever becomes of RESULT later. */
    private static void argumentAsItIsNow() {
        MarkedSteps x = made(a(CELL, 0, 1), a(SET, 1, 12), a(FILL, 0, 1, 1), a(GIVE, 0));
        more(x, 3, a(SET, 7, 0));
        x.run(0, 9);
        due("RESULT", x.argument(0, 2, 0), 1);
        due("its NEXT", x.into(0), 0);
        due("RESULT", x.argument(1, 2, 0), 1);
        due("no NEXT of a NUMBER", x.into(0), NO);
        due("a NUMBER", x.argument(2, 1, MIN), 1);
        x.walk(1, 1);
        due("RESULT within a WALK is nothing", x.argument(1, 2, 99), 1);
        int[] kinds = {2, 0, 0}, numbers = {0, 12, MIN};
        for (int k = 0; k < 3; k++) due("argument " + k, x.register(k, 0), kinds[k]);
        for (int k = 0; k < 3; k++) due("argument " + k, x.register(k, 1), numbers[k]);
        x.drop();
        x.walk(1, 1);
        due("from now on", x.register(1, 0), NONE);
        due("the others are as they were", x.register(0, 0), 2);
        due("the others are as they were", x.register(2, 1), MIN);
    }

    /** Promise 14: a CELL's NEXT whatever i is; of a ROW of LANE 4 its cells alone; of all else NO. */
    private static void intoBounds() {
        for (int i : JUNK) {
            MarkedSteps x = made(a(CELL, 0, 0), a(CELL, 1, 2), a(FILL, 0, 1, 1), a(GIVE, 0));
            x.run(0, 9);
            due("NEXT with " + i, x.into(i), 3);
            due("NEXT that is nothing with " + i, x.into(i), NONE);
            due("of nothing with " + i, x.into(i), NO);
            x = made(a(SET, 0, 0), a(ROW, 1, 0, 4), a(GIVE, 1));
            x.run(0, 9);
            due("of no cells with " + i, x.into(i), OUTSIDE);
            due("it is there still", x.result(0), 9);
            x = made(a(SET, 0, 3), a(GIVE, 0));
            x.run(0, 9);
            due("of a NUMBER with " + i, x.into(i), NO);
        }
        for (int lane = 0; lane < 4; lane++) {
            MarkedSteps x = made(a(SET, 0, 3), a(ROW, 1, 0, lane), a(GIVE, 1));
            x.run(0, 9);
            for (int i = 0; i < 3; i++) due("of LANE " + lane, x.into(i), NO);
            due("it is there still", x.result(0), 5 + lane);
        }
        for (int i = -1; i <= 3; i++) {
            MarkedSteps x = made(a(SET, 0, 3), a(ROW, 1, 0, 4), a(SET, 0, 2), a(ROW, 2, 0, 0), a(PUT, 1, 0, 2), a(GIVE, 1));
            x.run(0, 20);
            due("cell " + i + " of 3", x.into(i), i < 0 || i > 2 ? OUTSIDE : i == 2 ? 5 : NONE);
            due("RESULT", x.result(0), i < 0 || i > 2 ? 9 : i == 2 ? 5 : NONE);
        }
    }

    /** Promise 15: 0 where there is no such cell, or no such ROW. */
    private static void cellBounds() {
        MarkedSteps x = made(a(SET, 0, 1), a(ROW, 1, 0, 0), a(SET, 2, -6), a(SET, 0, 0), a(PUT, 1, 0, 2), a(GIVE, 1));
        due("before all runs", x.cell(0), 0);
        x.run(0, 9);
        due("the only cell", x.cell(0), -6);
        for (int i : new int[] {MIN, -1, 1, MAX}) due("no such cell", x.cell(i), 0);
        x = made(a(CELL, 0, 3), a(SET, 1, 9), a(FILL, 0, 0, 1), a(GIVE, 0));
        x.run(0, 9);
        for (int i = -1; i < 3; i++) due("a CELL has none", x.cell(i), 0);
        x = made(a(SET, 0, 0), a(ROW, 1, 0, 0), a(GIVE, 1));
        x.run(0, 9);
        for (int i = -1; i < 2; i++) due("no cells", x.cell(i), 0);
        due("no cells", x.result(1), 0);
        due("a ROW it is", x.result(0), 5);
    }

    /** Promise 16: what of it is 0 again as a run begins, and what stays. */
    private static void countedAnew() {
        MarkedSteps x = made(a(SET, 0, 2), a(ROW, 1, 0, 0), a(CELL, 1, 3), a(ENTER, 1), a(WEIGH, 2, 1), a(CALL, 3, 1, 0), a(THROW, 7), a(JUMP, 8), a(JUMP, 10),
            a(GIVE, 1), a(JUMP, 9));
        more(x, 0, a(CELL, 0, 0), a(ENTER, 0), a(ENTER, 0));
        x.handler(0, 6, 7, 1, 7);
        due("all of it", x.run(0, 99), 0);
        counts("all of it", x, 2 + 3 + 1 + 1 + 3 + 2, 5, 1, 1, 3, 2, 2, 3, 3);
        for (int w : new int[] {MIN, -1, 9, MAX}) due("OUTSIDE", x.counted(w), OUTSIDE);
        x.run(0, 0);
        counts("nothing of it", x, 0, 0, 0, 0, 0, 0, 0, 0, 0);
        x.run(1, 1);
        counts("a making that is not paid", x, 1, 1, 0, 0, 0, 0, 1, 0, 0);
        x.run(2, 9);
        counts("refused", x, 1, 1, 0, 0, 0, 0, 1, 0, 0);
    }

    /** Promises 19, 20, 23: a WALK that is over at once is none; n ACTS and no more. */
    private static void walkBounds() {
        MarkedSteps x = made();
        due("no ACTS", x.walk(0, 1), 0);
        due("no WALK", x.step(1), NO);
        due("no WALK", x.drop(), NO);
        due("no entry", x.walk(0, 0), STOPPED);
        due("no WALK", x.frame(0), NO);
        due("none was dropped", x.told(2), 1);
        due("both began", x.told(1), 2);
        due("RESULT", x.result(0), NONE);
        for (int n = 1; n <= 6; n++) {
            x = made(a(SET, 0, 1), a(SET, 0, 2), a(SET, 0, 3), a(SET, 0, 4), a(GIVE, 0));
            x.walk(0, 1);
            due(n + " ACTS of 5", x.step(n), n < 5 ? 1 : 0);
            due(n + " ACTS of 5", x.frame(2), n < 5 ? n : NO);
            due(n + " ACTS of 5", x.register(0, 1), n < 5 ? n : NO);
            due("RESULT", x.result(1), n < 5 ? 0 : 4);
        }
        x = made(a(JUMP, 0));
        x.walk(0, 1000);
        due("a thousand would be one too many", x.step(1000), STOPPED);
        counts("999 of them", x, 1000, 1, 999);
        x.walk(0, 1000);
        due("999", x.step(999), 1);
        due("paused ahead of the one that stops", x.left(), 4000);
        due("1", x.step(1), STOPPED);
        x = made(a(SET, 0, 1), a(JUMP, 0));
        x.walk(0, 1000);
        due("1000 ACTS", x.step(1000), 1);
        counts("1000 ACTS", x, 501, 1, 500);
        due("ahead of ACT 0 again", x.frame(2), 0);
        due("drop", x.drop(), 1);
        due("only once", x.drop(), NO);
    }

    /** Promise 20: "A FRAME that is over, as its ACTS are, is so with the ACT ahead." */
    private static void overWithTheActAhead() {
        int[][] lasts = {a(SET, 1, 1), a(JUMP, 40), a(BRANCH, 0, 40), a(JUMP, 2), a(CALL, 1, 3, 0), a(THROW, 5), a(GIVE, 5), a(ENTER, 2)};
        for (int[] last : lasts) {
            String what = "last OP " + last[0];
            MarkedSteps x = made(a(SET, 0, 7), a(CELL, 2, 0), a(CALL, 1, 1, 0), a(SET, 3, 3));
            more(x, 3, a(CALL, 1, 2, 0));
            more(x, 3, a(SET, 1, 0), last);
            x.member(2);
            x.handler(2, 1, 2, 1, 40);
            x.walk(0, 20);
            due(what, x.step(5), 1);
            due(what + ": three FRAMES", x.frame(0), 3);
            due(what + ": ahead of its last ACT", x.frame(2), 1);
            due(what, x.step(1), 1);
            due(what + ": two FRAMES are over with it", x.frame(0), 1);
            due(what + ": behind the CALL", x.frame(2), 3);
            due(what + ": what it gave", x.register(1, 0), NONE);
            due(what + ": none is held", x.frame(3), 0);
            due(what, x.step(1), 0);
        }
    }

    /** Promises 13, 16, 21, 22, 24, 8: each number that may be asked for, and those beside. */
    private static void numbersAskedFor() {
        MarkedSteps x = made(a(SET, 0, 1), a(SET, 0, 2));
        x.walk(0, 9);
        for (int n : new int[] {MIN, -1, 6, MAX}) due("told", x.told(n), OUTSIDE);
        for (int n : new int[] {MIN, -1, 4, MAX}) due("frame", x.frame(n), OUTSIDE);
        for (int n : new int[] {MIN, -1, 8, MAX}) due("register", x.register(n, 0), OUTSIDE);
        for (int n : new int[] {MIN, -1, 2, MAX}) due("register", x.register(0, n), OUTSIDE);
        for (int n : new int[] {MIN, -1, 3, MAX}) due("result", x.result(n), OUTSIDE);
        for (int n : new int[] {MIN, -1, 9, MAX}) due("counted", x.counted(n), OUTSIDE);
        for (int n : new int[] {MIN, -1, 4, MAX}) due("info", x.info(0, n), OUTSIDE);
        for (int n : new int[] {MIN, -1, 12, MAX}) due("plan", x.plan(n), OUTSIDE);
        for (int n : new int[] {MIN, -1, 1, MAX}) due("trace", x.trace(n), NONE);
        for (int n : new int[] {MIN, -1, 1, 9, 10, MAX}) due("no such MEMBER", x.info(n, 0), UNKNOWN);
        for (int n : new int[] {MIN, -1, 1, 9, 10, MAX}) due("no such MEMBER", x.verify(n), UNKNOWN);
        due("told", x.told(0), 1);
        due("told", x.told(5), 1);
        due("frame", x.frame(0), 1);
        due("frame", x.frame(3), 0);
        due("register", x.register(0, 0), NONE);
        due("register", x.register(7, 1), 0);
        due("result", x.result(0), NONE);
        due("result", x.result(2), 0);
        due("counted", x.counted(0), 1);
        due("counted", x.counted(8), 0);
        due("info", x.info(0, 0), 0);
        due("info", x.info(0, 3), 1);
        due("plan", x.plan(0), 0);
        due("plan", x.plan(11), 0);
        due("trace", x.trace(0), 100);
    }

    /** Promise 24: each run and walk is told once, as it ended. */
    private static void toldOnce() {
        MarkedSteps x = made(a(THROW, 0));
        more(x, 0, a(SET, 0, 1), a(GIVE, 0));
        more(x, 0, a(JUMP, 0));
        x.member(0);
        // MEMBER, then how it ends: 2 stopped, 3 threw, 4 gave.
        int[][] all = {{0, 3}, {1, 4}, {2, 2}, {3, 4}};
        int[] told = {4, 0, 0, 0, 0, 0};
        for (int[] one : all) {
            for (int budget : new int[] {0, 1, 7}) {
                for (int way = 0; way < 3; way++) {
                    boolean walks = way > 0 && budget > 0 && one[0] != 3;
                    if (way == 0) x.run(one[0], budget);
                    else x.walk(one[0], budget);
                    told[1]++;
                    due("whether there is a WALK", x.told(5), walks ? 1 : 0);
                    if (way == 1) x.step(1000);
                    if (way == 2) due("drop", x.drop(), walks ? 1 : NO);
                    told[budget == 0 || walks && way == 2 ? 2 : one[1]]++;
                    for (int w = 0; w < 6; w++) due("told(" + w + ") of MEMBER " + one[0] + ", " + budget + ", " + way, x.told(w), told[w]);
                }
            }
        }
    }

    public static void main(String[] args) {
        refusals();
        lanes();
        kindsTold();
        eachMemberFull();
        argumentsThenNothing();
        registersBeyondSeven();
        notNamed();
        thrownInOrder();
        thrownIsNotDone();
        deep();
        handlerBounds();
        caught();
        thrownThroughFrames();
        monitorBounds();
        eachIsPaid();
        thrownIsNotPaid();
        house();
        stopped();
        traceBounds();
        namedRegisters();
        cutAndMore();
        priceBounds();
        verifyWays();
        verifyEachOpsWays();
        verifyEdges();
        argumentAsItIsNow();
        intoBounds();
        cellBounds();
        countedAnew();
        walkBounds();
        overWithTheActAhead();
        numbersAskedFor();
        toldOnce();
        tellAndEnd();
    }
}
