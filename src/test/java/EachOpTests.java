/**
 * Each OP with each choice of registers and of what they hold, in each place that an ACT can have (the first FRAME and
 * the twelfth, the last ACT, with and without HANDLERS, with just enough to pay from and with one STEP less), asked of
 * MarkedSteps and of the Model. ModelTests meets these by chance; here each one is met.
 */
public final class EachOpTests extends Asked {
    private static final int[] ANY = {0, 1, 2, 3, 4, 5, 6, 7}, NOT_LOOKED_AT = {};
    private static final int[] TARGETS = {0, 5, SetUp.LENGTH, SetUp.LENGTH + 1, 40}, LANES = {0, 1, 2, 3, 4}, SORTS = {0, 1, 2, 3},
        KINDS = {0, 1, 2, 3, 4, 5, 6, 7, 8, 9, 10, 11}, NUMBERS = {0, 9, MIN, MAX};
    /** By OP: what A, B, C can be. */
    private static final int[][][] OPERANDS = {
        {ANY, NUMBERS, NOT_LOOKED_AT}, {ANY, ANY, NOT_LOOKED_AT}, {ANY, ANY, ANY}, {ANY, ANY, ANY}, {ANY, ANY, ANY},
        {ANY, ANY, ANY}, {ANY, ANY, ANY}, {ANY, ANY, ANY}, {ANY, ANY, ANY}, {TARGETS, NOT_LOOKED_AT, NOT_LOOKED_AT},
        {ANY, TARGETS, NOT_LOOKED_AT}, {ANY, ANY, LANES}, {ANY, SORTS, NOT_LOOKED_AT}, {ANY, ANY, ANY}, {ANY, ANY, ANY},
        {ANY, ANY, NOT_LOOKED_AT}, {ANY, ANY, {0, 1, 2, 3}}, {ANY, {0, 1}, ANY}, {ANY, ANY, KINDS}, {ANY, KINDS, NOT_LOOKED_AT},
        {ANY, NOT_LOOKED_AT, NOT_LOOKED_AT}, {ANY, NOT_LOOKED_AT, NOT_LOOKED_AT}, {ANY, NOT_LOOKED_AT, NOT_LOOKED_AT},
        {ANY, {-1, 2, 3, 4, 5, 6}, ANY}, {ANY, NOT_LOOKED_AT, NOT_LOOKED_AT}, {ANY, ANY, NOT_LOOKED_AT}, {ANY, ANY, NOT_LOOKED_AT},
        {ANY, ANY, NOT_LOOKED_AT}};

    /** ACTS that leave each register with something else in it, or, one of them, with nothing. */
    private static final class SetUp {
        static final int LENGTH = 13;

        static int[][] acts(int turn) {
            int[] r = new int[8];
            for (int k = 0; k < 8; k++) r[k] = (k + turn) % 8;
            // Left behind: r[0] 0, r[1] 2, r[2] a HEAVY CELL that is held, r[3] a GRAND one, r[4] to r[6] ROWS, r[7] nothing.
            return new int[][] {
                a(SET, r[1], 3), a(SET, r[0], 0), a(NOTE, r[1], r[0]), a(SET, r[1], 2), a(CELL, r[2], 1), a(FILL, r[2], 0, r[1]),
                a(ENTER, r[2]), a(CELL, r[3], 3), a(FILL, r[3], 1, r[2]), a(ROW, r[4], r[1], 0), a(ROW, r[5], r[1], 4),
                a(PUT, r[5], r[0], r[4]), a(ROW, r[6], r[1], 1)};
        }
    }

    private static final int CALLS = 512;

    private MarkedSteps x;
    private Model y;
    private int callsLeft;
    private String at = "";

    /** Objects are new as often as needed: each is asked 512 calls, has 6000 STEPS, and `most` calls may be still to come. */
    private void renew(int turn, int ahead, int most) {
        if (x != null) {
            if (callsLeft >= most && y.left() > 1000) return;
            lookAtEnd();
        }
        x = new MarkedSteps();
        y = new Model(new int[28][11]);
        callsLeft = CALLS;
        for (int wants : new int[] {0, 1, 0, 1, 2, 3}) {
            x.member(wants);
            y.member(wants);
            callsLeft--;
        }
        for (int[] act : SetUp.acts(turn)) act(0, act);
        for (int i = SetUp.LENGTH; i < ahead; i++) act(0, a(SET, turn % 8, 0));
        for (int m = 3; m <= 5; m++) {
            act(m, a(SAME, 3, 2, 1));
            act(m, a(GIVE, m - 3));
        }
        // MEMBER 1 calls itself as often as its argument tells, and then MEMBER 0.
        for (int[] act : new int[][] {a(BRANCH, 0, 3), a(CALL, 1, 0, 0), a(GIVE, 1), a(SET, 2, 1), a(SUB, 0, 0, 2), a(CALL, 1, 1, 0),
            a(GIVE, 1), a(GIVE, 7)}) act(1, act);
    }

    private int same(String call, int got, int want) {
        callsLeft--;
        if (callsLeft < 0) throw new IllegalStateException("more calls than the document promises answers for");
        due(at + call, got, want);
        return want;
    }

    private void act(int m, int[] act) {
        same("act", x.act(m, act[0], act[1], act[2], act[3]), y.act(m, act[0], act[1], act[2], act[3]));
    }

    private void handler(int m, int from, int go) {
        same("handler", x.handler(m, from, from + 1, 0, go), y.handler(m, from, from + 1, 0, go));
    }

    private void cut(int m) { same("cut", x.cut(m), y.cut(m)); }

    private int run(int m, int budget) { return same("run", x.run(m, budget), y.run(m, budget)); }

    private int step(int n) { return same("step", x.step(n), y.step(n)); }

    private void lookAtRun() {
        for (int w = 0; w < 3; w++) same("result(" + w + ")", x.result(w), y.result(w));
        for (int w = 0; w < 9; w++) same("counted(" + w + ")", x.counted(w), y.counted(w));
        for (int i = 0; i < 3; i++) same("plan(" + i + ")", x.plan(i), y.plan(i));
        same("left", x.left(), y.left());
    }

    private void lookAtEnd() {
        for (int w = 0; w < 6; w++) same("told(" + w + ")", x.told(w), y.told(w));
        for (int m = 0; m < 6; m++) same("info(" + m + ", 3)", x.info(m, 3), y.info(m, 3));
    }

    private void lookAtTrace(int first) {
        for (int i = first; i < first + 4; i++) same("trace(" + i + ")", x.trace(i), y.trace(i));
    }

    private void lookAtWalk() {
        for (int w = 0; w < 4; w++) same("frame(" + w + ")", x.frame(w), y.frame(w));
        for (int k = 0; k < 8; k++) {
            same("register(" + k + ", 0)", x.register(k, 0), y.register(k, 0));
            same("register(" + k + ", 1)", x.register(k, 1), y.register(k, 1));
        }
    }

    /** The ACT in a WALK: what it does to each register, what it takes, where it leaves the WALK. */
    private void walked(int ahead) {
        same("walk", x.walk(0, 1000), y.walk(0, 1000));
        step(ahead);
        int goesOn = step(1);
        lookAtWalk();
        lookAtRun();
        lookAtTrace(0);
        if (goesOn == 1) same("drop", x.drop(), y.drop());
    }

    /** The ACT in a run, some FRAMES deep; then with just the STEPS that it took, and with one less. */
    private void runDeep(int frames) {
        int m = frames == 1 ? 0 : 1;
        same("argument", x.argument(0, 1, frames - 2), y.argument(0, 1, frames - 2));
        run(m, 200);
        lookAtRun();
        lookAtTrace(frames - 1);
        int took = y.counted(0);
        if (took > 0 && took < 200) {
            run(m, took);
            same("counted(0)", x.counted(0), y.counted(0));
            run(m, took - 1);
            lookAtRun();
        }
    }

    private static int[] choices(int[] operand, int unnamed) {
        return operand.length == 0 ? new int[] {unnamed} : operand;
    }

    private interface Case {
        void ask(int[] act);
    }

    private static void forEachAct(int every, Case one) {
        int n = 0;
        for (int op = 0; op < 28; op++) {
            for (int a : choices(OPERANDS[op][0], MIN)) {
                for (int b : choices(OPERANDS[op][1], 77)) {
                    for (int c : choices(OPERANDS[op][2], -8)) {
                        if (n++ % every == 0) one.ask(new int[] {op, a, b, c});
                    }
                }
            }
        }
    }

    private void says(String place, int[] act) {
        at = place + ", ACT " + act[0] + " " + act[1] + " " + act[2] + " " + act[3] + ": ";
    }

    /** With a HANDLER the WALK goes on behind what is thrown, so that each register is seen to be as it was. */
    private static void walks(int turn, int ahead, boolean handled, int every) {
        EachOpTests both = new EachOpTests();
        forEachAct(every, act -> {
            both.renew(turn, ahead, 70);
            both.says("walk, turn " + turn + ", ACT " + ahead + (handled ? " with a HANDLER" : ""), act);
            if (handled && both.y.info(0, 2) == 0) both.handler(0, ahead, ahead);
            both.act(0, act);
            if (ahead < 39) both.act(0, a(GIVE, 7));
            both.walked(ahead);
            if (ahead < 39) both.cut(0);
            both.cut(0);
        });
        both.lookAtEnd();
    }

    /** Where: 0 no HANDLER, 1 one of the ACT's own FRAME, 2 one of the CALL that began it. */
    private static void runs(int turn, int frames, int where, int every) {
        EachOpTests both = new EachOpTests();
        forEachAct(every, act -> {
            both.renew(turn, SetUp.LENGTH, 80);
            both.says("run, turn " + turn + ", " + frames + " FRAMES, HANDLER " + where, act);
            if (where == 1 && both.y.info(0, 2) == 0) both.handler(0, SetUp.LENGTH, SetUp.LENGTH + 2);
            if (where == 2 && both.y.info(1, 2) == 0) both.handler(1, 1, 7);
            both.act(0, act);
            both.act(0, a(GIVE, act[1] & 7));
            both.act(0, a(GIVE, 7));
            both.runDeep(frames);
            for (int i = 0; i < 3; i++) both.cut(0);
        });
        both.lookAtEnd();
    }

    public static void main(String[] args) {
        walks(0, SetUp.LENGTH, false, 1);
        walks(3, SetUp.LENGTH, true, 1);
        for (int turn = 0; turn < 8; turn++) walks(turn, SetUp.LENGTH, turn % 2 == 0, 5);
        walks(1, 39, false, 3);
        walks(2, 39, true, 3);
        for (int frames : new int[] {1, 2, 12}) {
            for (int where = 0; where < 3; where++) runs((frames + where) % 8, frames, where, 1);
        }
        tellAndEnd();
    }
}
