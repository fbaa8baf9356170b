/** Each promise of the document by itself: ordinary inputs, the edges that it names, wrong inputs. */
public final class PromiseTests extends Asked {
    private static void newObject() {
        MarkedSteps x = new MarkedSteps();
        due("1 told(0)", x.told(0), 0);
        for (int w = 1; w <= 5; w++) due("1 told(" + w + ")", x.told(w), 0);
        due("1 left", x.left(), 6000);
        for (int i = 0; i < 12; i++) due("1 plan", x.plan(i), 0);
        due("1 result(0)", x.result(0), NONE);
        due("1 result(1)", x.result(1), 0);
        due("1 result(2)", x.result(2), 0);
        counts("1", x, 0, 0, 0, 0, 0, 0, 0, 0, 0);
        traces("1", x);
        for (int p = 0; p < 5; p++) due("1 price", x.price(p, 1), 1);
        due("1 info", x.info(0, 0), UNKNOWN);
        due("1 into", x.into(0), NO);
        due("1 step", x.step(1), NO);
        due("1 frame", x.frame(0), NO);
        due("1 register", x.register(0, 0), NO);
        due("1 drop", x.drop(), NO);
    }

    private static void member() {
        MarkedSteps x = new MarkedSteps();
        due("2 wants -1", x.member(-1), OUTSIDE);
        due("2 wants 4", x.member(4), OUTSIDE);
        for (int w : WRONG) due("2 wants wrong", x.member(w), OUTSIDE);
        for (int i = 0; i < 10; i++) due("2 member", x.member(i % 4), i);
        due("2 the eleventh", x.member(0), FULL);
        due("2 OUTSIDE ahead of FULL", x.member(4), OUTSIDE);
        for (int i = 0; i < 10; i++) due("2 wants", x.info(i, 0), i % 4);
        x.act(0, SET, 0, 0, 0);
        x.walk(0, 5);
        due("2 NO ahead of FULL", x.member(0), NO);
        due("2 OUTSIDE ahead of NO", x.member(-1), OUTSIDE);
        due("2 told", x.told(0), 10);
    }

    /** By OP: how far A, B, C may go from 0 on; -1: not looked at. */
    private static final int[][] MOST = {
        {7, -1, -1}, {7, 7, -1}, {7, 7, 7}, {7, 7, 7}, {7, 7, 7}, {7, 7, 7}, {7, 7, 7}, {7, 7, 7}, {7, 7, 7},
        {40, -1, -1}, {7, 40, -1}, {7, 7, 4}, {7, 3, -1}, {7, 7, 7}, {7, 7, 7}, {7, 7, -1}, {7, 7, 3}, {7, 1, 7},
        {7, 7, 11}, {7, 11, -1}, {7, -1, -1}, {7, -1, -1}, {7, -1, -1}, {7, -1, 7}, {7, -1, -1}, {7, 7, -1}, {7, 7, -1},
        {7, 7, -1}};

    private static void actBounds() {
        for (int op = 0; op < 28; op++) {
            MarkedSteps x = new MarkedSteps();
            x.member(0);
            int n = 0;
            for (int place = 0; place < 3; place++) {
                int most = MOST[op][place];
                for (int v : new int[] {0, most, -1, most + 1, Integer.MIN_VALUE, Integer.MAX_VALUE}) {
                    int[] abc = {0, 0, 0};
                    abc[place] = v;
                    boolean fits = most < 0 || v >= 0 && v <= most;
                    n += fits ? 1 : 0;
                    due("3 act " + op + " with " + v + " at " + place, x.act(0, op, abc[0], abc[1], abc[2]), fits ? n : OUTSIDE);
                }
            }
            due("3 how many ACTS", x.info(0, 1), n);
        }
    }

    private static void act() {
        actBounds();
        MarkedSteps x = new MarkedSteps();
        due("3 UNKNOWN", x.act(0, SET, 0, 0, 0), UNKNOWN);
        x.member(0);
        for (int m : WRONG) due("3 UNKNOWN ahead of OUTSIDE", x.act(m, 99, 9, 9, 9), UNKNOWN);
        due("3 UNKNOWN behind the last", x.act(1, SET, 0, 0, 0), UNKNOWN);
        for (int op : WRONG) due("3 op", x.act(0, op, 0, 0, 0), OUTSIDE);
        due("3 op 28", x.act(0, 28, 0, 0, 0), OUTSIDE);
        for (int i = 1; i <= 40; i++) due("3 act", x.act(0, SET, 0, i, 0), i);
        due("3 the 41st", x.act(0, SET, 0, 0, 0), FULL);
        due("3 OUTSIDE ahead of FULL", x.act(0, SET, 8, 0, 0), OUTSIDE);
        x.walk(0, 5);
        due("3 NO ahead of FULL", x.act(0, SET, 0, 0, 0), NO);
        due("3 OUTSIDE ahead of NO", x.act(0, 28, 0, 0, 0), OUTSIDE);
        x.drop();
        due("3 refusals change nothing", x.info(0, 1), 40);
        due("3 cut", x.cut(0), 39);
        due("3 room again", x.act(0, SET, 0, 0, 0), 40);
    }

    private static void handler() {
        MarkedSteps x = made(a(SET, 0, 0));
        due("4 UNKNOWN ahead of OUTSIDE", x.handler(1, 99, 0, 0, 0), UNKNOWN);
        due("4 UNKNOWN", x.handler(-1, 0, 0, 0, 0), UNKNOWN);
        for (int v : new int[] {Integer.MIN_VALUE, -1, 41, Integer.MAX_VALUE}) {
            due("4 from", x.handler(0, v, 0, 0, 0), OUTSIDE);
            due("4 to", x.handler(0, 0, v, 0, 0), OUTSIDE);
            due("4 kind", x.handler(0, 0, 0, v, 0), OUTSIDE);
            due("4 at", x.handler(0, 0, 0, 0, v), OUTSIDE);
        }
        due("4 kind 10", x.handler(0, 0, 0, 10, 0), OUTSIDE);
        due("4 one", x.handler(0, 0, 0, 0, 0), 1);
        due("4 two", x.handler(0, 40, 40, 9, 40), 2);
        due("4 from behind to", x.handler(0, 40, 0, 0, 0), 3);
        x.walk(0, 9);
        due("4 NO", x.handler(0, 0, 0, 0, 0), NO);
        due("4 OUTSIDE ahead of NO", x.handler(0, 0, 0, 10, 0), OUTSIDE);
        x.drop();
        for (int i = 4; i <= 6; i++) due("4 more", x.handler(0, 0, 0, 0, 0), i);
        due("4 the seventh", x.handler(0, 0, 0, 0, 0), FULL);
        due("4 OUTSIDE ahead of FULL", x.handler(0, 0, 0, 0, 41), OUTSIDE);
        x.walk(0, 9);
        due("4 NO ahead of FULL", x.handler(0, 0, 0, 0, 0), NO);
        due("4 how many", x.info(0, 2), 6);
    }

    private static void cut() {
        MarkedSteps x = made(a(SET, 0, 5), a(GIVE, 0), a(SET, 0, 6));
        due("5 UNKNOWN", x.cut(1), UNKNOWN);
        for (int m : WRONG) due("5 UNKNOWN", x.cut(m), UNKNOWN);
        due("5 cut", x.cut(0), 2);
        x.walk(0, 5);
        due("5 a WALK", x.cut(0), NO);
        due("5 UNKNOWN ahead of NO", x.cut(1), UNKNOWN);
        x.drop();
        due("5 cut GIVE", x.cut(0), 1);
        due("5 the rest runs", x.run(0, 5), 0);
        due("5 gives nothing now", x.result(0), NONE);
        due("5 cut all", x.cut(0), 0);
        due("5 it has none", x.cut(0), NO);
        due("5 info", x.info(0, 1), 0);
    }

    private static void price() {
        MarkedSteps x = made(a(SET, 0, 0));
        for (int v : new int[] {Integer.MIN_VALUE, -1, 5, Integer.MAX_VALUE}) due("6 kind", x.price(v, 1), OUTSIDE);
        for (int v : new int[] {Integer.MIN_VALUE, -1, 0, 10, Integer.MAX_VALUE}) due("6 n", x.price(0, v), OUTSIDE);
        due("6 first", x.price(0, 9), 1);
        due("6 again", x.price(0, 4), 9);
        x.walk(0, 9);
        due("6 NO", x.price(0, 2), NO);
        due("6 OUTSIDE ahead of NO", x.price(0, 0), OUTSIDE);
        due("6 the entry's PRICE", x.counted(0), 4);
        x.drop();
        due("6 unchanged", x.price(0, 1), 4);
    }

    /** One of each that is paid, with a PRICE of its own for each. */
    private static void prices() {
        MarkedSteps x = made(
            a(SET, 0, 3), a(ROW, 1, 0, 0), a(CELL, 2, 0), a(WEIGH, 3, 2), a(SET, 4, 1), a(SUB, 0, 0, 4),
            a(BRANCH, 0, 5), a(THROW, 0), a(GIVE, 7));
        x.handler(0, 7, 8, 9, 8);
        int[] ps = {2, 3, 5, 7, 9};
        for (int p = 0; p < 5; p++) x.price(p, ps[p]);
        // Two entries (FRAME, body), two back jumps, a HANDLER, two makings, three cells.
        int steps = 2 * 2 + 2 * 3 + 5 + 2 * 7 + 3 * 9;
        due("6 run with all PRICES", x.run(0, steps), 0);
        counts("6 all PRICES", x, steps, 2, 2, 1, 2, 3, 1, 0, 0);
        due("6 left", x.left(), 6000 - steps);
        due("6 one too few", x.run(0, steps - 1), STOPPED);
        counts("6 one too few", x, steps - 5, 2, 2, 0, 2, 3, 1, 0, 0);
        due("6 left less", x.left(), 6000 - steps - (steps - 5));
    }

    private static void verified(String what, int want, int wants, int[]... acts) {
        MarkedSteps x = new MarkedSteps();
        more(x, wants, acts);
        due("7 " + what, x.verify(0), want);
    }

    private static void verifyPlain() {
        verified("no ACTS", NONE, 0);
        verified("an argument", NONE, 1, a(GIVE, 0));
        verified("behind the arguments", 0, 1, a(GIVE, 1));
        verified("three arguments", NONE, 3, a(PUT, 0, 1, 2));
        verified("two arguments", 0, 2, a(PUT, 0, 1, 2));
        verified("what it makes counts behind it", 0, 0, a(ADD, 0, 0, 0), a(GIVE, 0));
        verified("made by an ACT that looked too early", 0, 0, a(MOVE, 0, 1), a(GIVE, 0), a(GIVE, 1));
        verified("made", NONE, 0, a(SET, 3, 1), a(GIVE, 3));
        verified("not come to behind GIVE", NONE, 0, a(SET, 0, 1), a(GIVE, 0), a(GIVE, 1));
        verified("not come to behind THROW", NONE, 0, a(SET, 0, 1), a(THROW, 0), a(GIVE, 1));
        verified("not come to behind JUMP", NONE, 0, a(JUMP, 2), a(GIVE, 1), a(SET, 0, 0));
        verified("JUMP behind the last", NONE, 0, a(JUMP, 40), a(GIVE, 1));
        verified("BRANCH goes on", 1, 1, a(BRANCH, 0, 2), a(GIVE, 1), a(GIVE, 0));
        verified("BRANCH goes there", 2, 1, a(BRANCH, 0, 2), a(GIVE, 0), a(GIVE, 1));
        verified("made on one way alone", 2, 1, a(BRANCH, 0, 2), a(SET, 1, 1), a(GIVE, 1));
        verified("made on both ways", NONE, 1, a(BRANCH, 0, 3), a(SET, 1, 1), a(JUMP, 4), a(SET, 1, 2), a(GIVE, 1));
        verified("the least, though it is come to later", 1, 0, a(JUMP, 3), a(GIVE, 1), a(GIVE, 0), a(SET, 0, 0), a(JUMP, 1));
        verified("first way made, back way too", NONE, 1, a(JUMP, 3), a(MOVE, 2, 1), a(GIVE, 2), a(SET, 1, 0), a(BRANCH, 0, 1));
        verified("a back jump brings less", 2, 2, a(BRANCH, 0, 3), a(SET, 2, 0), a(MOVE, 3, 2), a(BRANCH, 1, 2));
    }

    /** Which registers each OP looks at, and whether it makes a. */
    private static void verifyEachOp() {
        String[] looks = {"", "b", "bc", "bc", "bc", "bc", "bc", "bc", "bc", "", "a", "b", "", "abc", "bc", "b", "b", "ac",
            "b", "a", "a", "a", "a", "", "a", "ab", "b", "b"};
        String makes = "1111111110011011101000010011";
        for (int op = 0; op < 28; op++) {
            for (int without = 0; without <= 3; without++) {
                // Registers 0, 1, 2 are named; all but one of them are made ahead; then register 0 is looked at.
                MarkedSteps x = new MarkedSteps();
                int m = x.member(0), n = 0;
                for (int k = 0; k < 3; k++) if (k != without) n = x.act(m, SET, k, 1, 0);
                int b = op == BRANCH || op == JUMP ? n + 1 : 1;
                due("7 act", x.act(m, op, op == JUMP ? n + 1 : 0, b, 2), n + 1);
                x.act(m, GIVE, 0, 0, 0);
                boolean looked = without < 3 && looks[op].indexOf("abc".charAt(without)) >= 0;
                boolean later = without == 0 && makes.charAt(op) == '0' && op != THROW && op != GIVE;
                due("7 OP " + op + " without " + without, x.verify(m), looked ? n : later ? n + 1 : NONE);
            }
        }
    }

    /** To look at a register is not to make it: a lesser ACT that is come to behind has it unset still. */
    private static void verifyLooksMakeNothing() {
        for (int op : new int[] {BRANCH, PUT, FILL, CAST, ENTER, LEAVE, NOTE}) {
            verified("OP " + op + " makes nothing", 1, 0, a(JUMP, 3), a(MOVE, 7, 0), a(GIVE, 7), a(SET, 1, 1), a(SET, 2, 1),
                a(op, 0, op == BRANCH ? 6 : 1, 2), a(JUMP, 1));
        }
    }

    private static void verifyHandlers() {
        MarkedSteps x = made(a(SET, 0, 1), a(SET, 1, 1), a(GIVE, 1), a(GIVE, 7), a(GIVE, 1));
        due("7 not come to", x.verify(0), NONE);
        x.handler(0, 1, 2, 3, 3);
        due("7 register 7 by a HANDLER", x.verify(0), NONE);
        x.handler(0, 1, 2, 9, 4);
        due("7 what ACT 1 makes is not made as it throws", x.verify(0), 4);
        x = made(a(SET, 0, 1), a(SET, 1, 1), a(SET, 2, 1), a(GIVE, 1), a(GIVE, 1));
        x.handler(0, 2, 3, 0, 4);
        due("7 made ahead", x.verify(0), NONE);
        x.handler(0, 4, 2, 0, 4);
        due("7 no ACT from behind to", x.verify(0), NONE);
        x.handler(0, 0, 40, 0, 40);
        due("7 AT behind the last", x.verify(0), NONE);
        x.handler(0, 0, 1, 1, 4);
        due("7 from the first", x.verify(0), 4);
        x = made(a(SET, 0, 1), a(GIVE, 0), a(GIVE, 5));
        x.handler(0, 1, 2, 0, 2);
        due("7 from each ACT, GIVE too", x.verify(0), 2);
        x = made(a(SET, 0, 1), a(THROW, 0), a(GIVE, 5));
        x.handler(0, 2, 3, 0, 2);
        due("7 a HANDLER of ACTS that are not come to", x.verify(0), NONE);
    }

    private static void verifyCalls() {
        MarkedSteps x = made(a(SET, 5, 1), a(CALL, 0, 3, 5), a(GIVE, 0));
        due("7 no such MEMBER looks at none", x.verify(0), NONE);
        x.member(1);
        x.member(2);
        due("7 still none", x.verify(0), NONE);
        x.member(2);
        due("7 it wants two", x.verify(0), 1);
        x = made(a(SET, 6, 1), a(SET, 7, 1), a(CALL, 0, 1, 6), a(GIVE, 0));
        x.member(3);
        due("7 beyond 7 is no register", x.verify(0), NONE);
        x = made(a(CALL, 0, 1, 5), a(GIVE, 0));
        x.member(0);
        due("7 it wants none, and a is made", x.verify(0), NONE);
        x = made(a(CALL, 0, -1, 5), a(GIVE, 0));
        due("7 a is made by a CALL of none", x.verify(0), NONE);
        x = made(a(CALL, 0, 1, 0));
        x.member(1);
        due("7 register 0 is one of them", x.verify(0), 0);
    }

    private static void verify() {
        MarkedSteps x = new MarkedSteps();
        due("7 UNKNOWN", x.verify(0), UNKNOWN);
        for (int m : WRONG) due("7 UNKNOWN", x.verify(m), UNKNOWN);
        verifyPlain();
        verifyEachOp();
        verifyLooksMakeNothing();
        verifyHandlers();
        verifyCalls();
        x = made(a(GIVE, 4));
        x.walk(0, 5);
        due("7 in a WALK", x.verify(0), 0);
    }

    private static void info() {
        MarkedSteps x = made(a(CALL, 0, 1, 0), a(CALL, 0, 1, 0));
        more(x, 3, a(SET, 0, 0));
        x.handler(1, 0, 0, 0, 0);
        due("8 wants", x.info(1, 0), 3);
        due("8 ACTS", x.info(0, 1), 2);
        due("8 HANDLERS", x.info(1, 2), 1);
        due("8 FRAMES", x.info(1, 3), 0);
        x.run(0, 10);
        x.run(0, 2);
        x.walk(0, 1);
        x.drop();
        x.run(0, 0);
        due("8 FRAMES of 0, not the one stopped at its entry", x.info(0, 3), 3);
        due("8 FRAMES of 1", x.info(1, 3), 3);
        for (int w : new int[] {Integer.MIN_VALUE, -1, 4, Integer.MAX_VALUE}) due("8 OUTSIDE", x.info(0, w), OUTSIDE);
        due("8 UNKNOWN ahead of OUTSIDE", x.info(2, 4), UNKNOWN);
        due("8 UNKNOWN", x.info(-1, 0), UNKNOWN);
    }

    private static void set() {
        MarkedSteps x = made(a(SET, 0, 0));
        for (int i : new int[] {Integer.MIN_VALUE, -1, 12, Integer.MAX_VALUE}) {
            due("9 OUTSIDE", x.set(i, 1), OUTSIDE);
            due("10 OUTSIDE", x.plan(i), OUTSIDE);
        }
        for (int i = 0; i < 12; i++) due("9 first", x.set(i, 100 + i), 0);
        for (int i = 0; i < 12; i++) due("10 plan", x.plan(i), 100 + i);
        due("9 what it was", x.set(3, Integer.MIN_VALUE), 103);
        due("9 a number like a refusal", x.set(4, OUTSIDE), 104);
        due("10 plan", x.plan(3), Integer.MIN_VALUE);
        due("10 plan", x.plan(4), -2);
        x.walk(0, 1);
        due("9 NO", x.set(3, 5), NO);
        due("9 OUTSIDE ahead of NO", x.set(12, 5), OUTSIDE);
        due("10 in a WALK", x.plan(3), Integer.MIN_VALUE);
    }

    private static void planInRuns() {
        MarkedSteps x = made(a(SET, 0, 7), a(SET, 1, 11), a(NOTE, 0, 1), a(ASK, 2, 1), a(GIVE, 2));
        due("10 run", x.run(0, 5), 0);
        due("10 ASK", x.result(1), 7);
        due("10 NOTE", x.plan(11), 7);
        x = made(a(SET, 0, 7), a(SET, 1, 2), a(NOTE, 0, 1), a(THROW, 0));
        due("10 threw", x.run(0, 5), -19);
        due("10 what was not caught leaves it", x.plan(2), 7);
        x = made(a(SET, 0, 7), a(SET, 1, 2), a(NOTE, 0, 1), a(CELL, 0, 0));
        x.set(2, 4);
        x.handler(0, 0, 40, 0, 40);
        due("10 stopped, no HANDLER keeps it", x.run(0, 1), STOPPED);
        due("10 as it was", x.plan(2), 4);
        due("10 a walk", x.walk(0, 1), 1);
        due("10 three ACTS", x.step(3), 1);
        due("10 changed on the way", x.plan(2), 7);
        due("10 the STOP", x.step(1), STOPPED);
        due("10 as it was again", x.plan(2), 4);
        gives("25, 26 cell 0", 0, 7, a(SET, 0, 7), a(SET, 1, 0), a(NOTE, 0, 1), a(ASK, 2, 1), a(GIVE, 2));
        ends("25 INDEX below", -12, a(SET, 0, 7), a(SET, 1, -1), a(NOTE, 0, 1));
        ends("25 INDEX above", -12, a(SET, 0, 7), a(SET, 1, 12), a(NOTE, 0, 1));
        ends("26 INDEX below", -12, a(SET, 1, -1), a(ASK, 0, 1));
        ends("26 INDEX above", -12, a(SET, 1, 12), a(ASK, 0, 1));
        ends("25 a ahead of b", -13, a(CELL, 0, 0), a(NOTE, 0, 1));
        ends("25 b ahead of INDEX", -11, a(SET, 0, 0), a(NOTE, 0, 1));
        ends("25 b CAST", -13, a(SET, 0, 0), a(CELL, 1, 0), a(NOTE, 0, 1));
    }

    private static void argument() {
        MarkedSteps x = new MarkedSteps();
        for (int k : new int[] {Integer.MIN_VALUE, -1, 3, Integer.MAX_VALUE}) due("11 k", x.argument(k, 0, 0), OUTSIDE);
        for (int k : new int[] {Integer.MIN_VALUE, -1, 3, Integer.MAX_VALUE}) due("11 kind", x.argument(0, k, 0), OUTSIDE);
        more(x, 3, a(SET, 7, 0));
        more(x, 2, a(SET, 7, 0));
        more(x, 0, a(CELL, 0, 2), a(GIVE, 0));
        x.walk(0, 1);
        for (int k = 0; k < 8; k++) due("11 nothing at first", x.register(k, 0), NONE);
        due("11 in a WALK", x.argument(2, 1, -5), 1);
        due("11 from the next run on", x.register(2, 0), NONE);
        x.drop();
        due("11 a NUMBER", x.argument(0, 1, 8), 1);
        due("11 RESULT, nothing", x.argument(1, 2, 8), 1);
        x.walk(0, 1);
        due("11 register 0", x.register(0, 1), 8);
        due("11 register 1", x.register(1, 0), NONE);
        due("11 register 2", x.register(2, 1), -5);
        x.drop();
        x.walk(1, 1);
        due("11 no more than it wants", x.register(2, 0), NONE);
        x.drop();
        x.run(2, 5);
        due("11 RESULT, an ODD one", x.argument(1, 2, 0), 1);
        x.run(1, 5);
        x.walk(1, 1);
        due("11 as it was then", x.register(1, 0), 3);
        x.drop();
        due("11 nothing again", x.argument(1, 0, 5), 1);
        x.walk(1, 1);
        due("11 nothing", x.register(1, 0), NONE);
        x.drop();
        x.argument(1, 1, 77);
        x.argument(1, 0, 77);
        x.walk(1, 1);
        due("11 nothing has no NUMBER", x.register(1, 1), 0);
    }

    private static void run() {
        MarkedSteps x = made(a(SET, 0, 5), a(GIVE, 0));
        due("12 UNKNOWN", x.run(1, 5), UNKNOWN);
        for (int m : WRONG) due("12 UNKNOWN ahead of OUTSIDE", x.run(m, -1), UNKNOWN);
        for (int b : new int[] {Integer.MIN_VALUE, -1, 1001, Integer.MAX_VALUE}) due("12 budget", x.run(0, b), OUTSIDE);
        due("12 refused ones do not begin", x.told(1), 0);
        due("12 budget 0", x.run(0, 0), STOPPED);
        due("12 budget 1000", x.run(0, 1000), 0);
        due("12 RESULT", x.result(1), 5);
        due("12 refused", x.run(0, 1001), OUTSIDE);
        due("12 RESULT stays with a refusal", x.result(1), 5);
        x.walk(0, 5);
        due("12 NO", x.run(0, 5), NO);
        due("12 OUTSIDE ahead of NO", x.run(0, 1001), OUTSIDE);
        x.drop();
        due("12 RESULT is nothing behind the STOP", x.result(0), NONE);
        ends("12 no ACTS", 0);
        x = made(a(SET, 0, 5), a(GIVE, 0));
        more(x, 0, a(SET, 0, 6));
        x.run(0, 5);
        x.run(1, 5);
        due("12 nothing that an earlier run gave", x.result(0), NONE);
        gives("12 behind the last it gives nothing", NONE, 0, a(SET, 0, 5));
        ends("12 JUMP behind the last", 0, a(JUMP, 40));
    }

    private static void reckoning() {
        int min = Integer.MIN_VALUE, max = Integer.MAX_VALUE;
        int[][] all = {
            {ADD, 3, 4, 7}, {ADD, max, 1, min}, {SUB, 3, 4, -1}, {SUB, min, 1, max}, {MUL, -3, 4, -12}, {MUL, 1 << 16, 1 << 16, 0},
            {DIV, 7, 2, 3}, {DIV, -7, 2, -3}, {DIV, 7, -2, -3}, {DIV, min, -1, min}, {DIV, 0, 5, 0}, {REST, 7, 3, 1}, {REST, -7, 3, -1},
            {REST, 7, -3, 1}, {REST, min, -1, 0}, {LESS, 3, 4, 1}, {LESS, 4, 4, 0}, {LESS, 5, 4, 0}, {LESS, min, max, 1}, {SAME, 5, 5, 1},
            {SAME, 5, 6, 0}, {SAME, 1000, 1000, 1}};
        for (int[] one : all) {
            gives("reckon " + one[0] + " " + one[1] + " " + one[2], 0, one[3],
                a(SET, 1, one[1]), a(SET, 2, one[2]), a(one[0], 1, 1, 2), a(GIVE, 1));
        }
        ends("DIV by 0", -15, a(SET, 1, 1), a(SET, 2, 0), a(DIV, 0, 1, 2));
        ends("REST by 0", -15, a(SET, 1, 1), a(SET, 2, 0), a(REST, 0, 1, 2));
        for (int op = ADD; op <= LESS; op++) {
            ends("b NULL", -11, a(CELL, 2, 0), a(op, 0, 1, 2));
            ends("b CAST", -13, a(CELL, 1, 0), a(op, 0, 1, 2));
            ends("c NULL", -11, a(SET, 1, 0), a(op, 0, 1, 2));
            ends("c CAST", -13, a(SET, 1, 0), a(CELL, 2, 0), a(op, 0, 1, 2));
        }
        gives("SAME: both nothing", 0, 1, a(SAME, 0, 1, 2), a(GIVE, 0));
        gives("SAME: a NUMBER and nothing", 0, 0, a(SET, 1, 0), a(SAME, 0, 1, 2), a(GIVE, 0));
        gives("SAME: the very same", 0, 1, a(CELL, 1, 0), a(MOVE, 2, 1), a(SAME, 0, 1, 2), a(GIVE, 0));
        gives("SAME: another CELL", 0, 0, a(CELL, 1, 0), a(CELL, 2, 0), a(SAME, 0, 1, 2), a(GIVE, 0));
        gives("SAME: another ROW", 0, 0, a(SET, 0, 0), a(ROW, 1, 0, 0), a(ROW, 2, 0, 0), a(SAME, 0, 1, 2), a(GIVE, 0));
        gives("SAME: a CELL and nothing", 0, 0, a(CELL, 1, 0), a(SAME, 0, 1, 2), a(GIVE, 0));
        gives("SAME: NUMBERS in used registers", 0, 1, a(CELL, 1, 0), a(SET, 1, 4), a(SET, 2, 4), a(SAME, 0, 1, 2), a(GIVE, 0));
        gives("SAME: nothing in a used register", 0, 1, a(SET, 1, 4), a(MOVE, 1, 5), a(SAME, 0, 1, 2), a(GIVE, 0));
        gives("SAME: a CELL in a used register", 0, 1, a(SET, 1, 4), a(CELL, 1, 0), a(CELL, 2, 0), a(MOVE, 2, 1), a(SAME, 0, 1, 2), a(GIVE, 0));
        ends("no ROW any more", -13, a(SET, 0, 2), a(ROW, 0, 0, 0), a(SET, 0, 2), a(LENGTH, 1, 0));
        ends("no CELL any more", -13, a(CELL, 0, 0), a(SET, 0, 2), a(FIELD, 1, 0, 0));
        ends("no CELL but a ROW", -13, a(CELL, 0, 0), a(SET, 1, 2), a(ROW, 0, 1, 0), a(FIELD, 1, 0, 0));
        ends("no ROW but a CELL", -13, a(SET, 1, 2), a(ROW, 0, 1, 0), a(CELL, 0, 0), a(LENGTH, 1, 0));
        ends("nothing any more", -11, a(CELL, 0, 0), a(MOVE, 0, 5), a(FIELD, 1, 0, 0));
        gives("MOVE of nothing", NONE, 0, a(SET, 0, 1), a(MOVE, 0, 1), a(GIVE, 0));
    }

    private static void rows() {
        int[][] lanes = {{0, -129, -129}, {1, -129, 127}, {1, 200, -56}, {2, -1, 65535}, {2, 65536 + 5, 5}, {3, -5, -5},
            {3, Integer.MIN_VALUE, Integer.MIN_VALUE}, {0, Integer.MAX_VALUE, Integer.MAX_VALUE}};
        for (int[] one : lanes) {
            gives("LANE " + one[0] + " of " + one[1], 0, one[2], a(SET, 0, 2), a(ROW, 1, 0, one[0]), a(SET, 0, 1), a(SET, 2, one[1]),
                a(PUT, 1, 0, 2), a(GET, 3, 1, 0), a(GIVE, 3));
            gives("LANE " + one[0] + " begins", 0, 0, a(SET, 0, 2), a(ROW, 1, 0, one[0]), a(SET, 0, 1), a(GET, 3, 1, 0), a(GIVE, 3));
        }
        gives("LANE 4 begins", NONE, 0, a(SET, 0, 1), a(ROW, 1, 0, 4), a(SET, 0, 0), a(GET, 3, 1, 0), a(GIVE, 3));
        gives("LANE 4 keeps the very ROW", 0, 1, a(SET, 0, 2), a(ROW, 1, 0, 4), a(ROW, 2, 0, 0), a(SET, 0, 1), a(PUT, 1, 0, 2),
            a(GET, 3, 1, 0), a(SAME, 4, 2, 3), a(GIVE, 4));
        gives("LANE 4 of nothing again", NONE, 0, a(SET, 0, 1), a(ROW, 1, 0, 4), a(ROW, 2, 0, 0), a(SET, 0, 0), a(PUT, 1, 0, 2),
            a(PUT, 1, 0, 5), a(GET, 3, 1, 0), a(GIVE, 3));
        gives("LENGTH", 0, 9, a(SET, 0, 9), a(ROW, 0, 0, 2), a(LENGTH, 0, 0), a(GIVE, 0));
        gives("LENGTH 0", 0, 0, a(SET, 0, 0), a(ROW, 1, 0, 4), a(LENGTH, 0, 1), a(GIVE, 0));
        ends("ROW NULL", -11, a(ROW, 0, 1, 0));
        ends("ROW CAST", -13, a(CELL, 1, 0), a(ROW, 0, 1, 0));
        ends("ROW SIZE", -14, a(SET, 1, -1), a(ROW, 0, 1, 0));
        ends("ROW SIZE, least", -14, a(SET, 1, Integer.MIN_VALUE), a(ROW, 0, 1, 4));
        ends("ROW too dear", STOPPED, a(SET, 1, Integer.MAX_VALUE), a(ROW, 0, 1, 4));
        ends("LENGTH NULL", -11, a(LENGTH, 0, 1));
        ends("LENGTH CAST", -13, a(CELL, 1, 0), a(LENGTH, 0, 1));
        rowsThrow();
    }

    private static void rowsThrow() {
        int[] two = a(SET, 0, 2), row = a(ROW, 1, 0, 0), rows = a(ROW, 1, 0, 4), cell = a(CELL, 3, 0);
        ends("PUT a NULL", -11, a(PUT, 1, 0, 2));
        ends("PUT a CAST", -13, a(SET, 1, 0), a(PUT, 1, 0, 2));
        ends("PUT b NULL ahead of c", -11, two, row, cell, a(PUT, 1, 4, 3));
        ends("PUT b CAST", -13, two, row, cell, a(PUT, 1, 3, 4));
        ends("PUT c NULL ahead of INDEX", -11, two, row, a(PUT, 1, 0, 4));
        ends("PUT c CAST", -13, two, row, cell, a(PUT, 1, 0, 3));
        ends("PUT INDEX above", -12, two, row, a(PUT, 1, 0, 0));
        ends("PUT INDEX below", -12, two, row, a(SET, 0, -1), a(PUT, 1, 0, 0));
        ends("PUT LANE 4: CAST of a NUMBER", -13, two, rows, a(PUT, 1, 0, 0));
        ends("PUT LANE 4: CAST of a CELL", -13, two, rows, cell, a(PUT, 1, 0, 3));
        for (int lane = 1; lane <= 4; lane++) ends("PUT LANE 4: CAST of a LANE", -13, two, rows, a(ROW, 2, 0, lane), a(PUT, 1, 0, 2));
        ends("PUT LANE 4: INDEX behind nothing", -12, two, rows, a(PUT, 1, 0, 5));
        ends("PUT LANE 4: INDEX behind a ROW", -12, two, rows, a(ROW, 2, 0, 0), a(PUT, 1, 0, 2));
        ends("GET b NULL", -11, a(SET, 0, 0), a(GET, 2, 1, 0));
        ends("GET b CAST", -13, a(SET, 0, 0), a(CELL, 1, 0), a(GET, 2, 1, 0));
        ends("GET c NULL", -11, two, row, a(GET, 2, 1, 4));
        ends("GET c CAST", -13, two, row, a(GET, 2, 1, 1));
        ends("GET INDEX above", -12, two, row, a(GET, 2, 1, 0));
        ends("GET INDEX below", -12, two, rows, a(SET, 0, -1), a(GET, 2, 1, 0));
    }

    private static void cells() {
        int[] marks = {1, 1, 7, 7};
        int[] weights = {6, 12, 12, 19}, bodies = {1, 2, 2, 3};
        for (int sort = 0; sort < 4; sort++) {
            int[] made = a(CELL, 0, sort), five = a(SET, 1, 5);
            gives("V at first", 0, 0, made, a(FIELD, 2, 0, 0), a(GIVE, 2));
            gives("NEXT at first", NONE, 0, made, a(FIELD, 2, 0, 1), a(GIVE, 2));
            gives("elder MARK", 0, 1, made, a(FIELD, 2, 0, 2), a(GIVE, 2));
            gives("other MARK", 0, marks[sort], made, a(FIELD, 2, 0, 3), a(GIVE, 2));
            gives("V filled", 0, 5, made, five, a(FILL, 0, 0, 1), a(FIELD, 0, 0, 0), a(GIVE, 0));
            gives("NEXT a NUMBER", 0, 5, made, five, a(FILL, 0, 1, 1), a(FIELD, 0, 0, 1), a(GIVE, 0));
            gives("NEXT itself", sort + 1, 0, made, a(FILL, 0, 1, 0), a(FIELD, 1, 0, 1), a(GIVE, 1));
            gives("NEXT nothing again", NONE, 0, made, a(FILL, 0, 1, 0), a(FILL, 0, 1, 3), a(FIELD, 1, 0, 1), a(GIVE, 1));
            MarkedSteps x = made(made, five, a(FILL, 0, 0, 1), a(WEIGH, 0, 0), a(GIVE, 0));
            x.price(0, 4);
            due("WEIGH", x.run(0, 50), 0);
            due("WEIGHT of " + sort, x.result(1), weights[sort]);
            counts("WEIGH", x, 4 + 1 + 4 * bodies[sort], 1 + bodies[sort], 0, 0, 1, 0, 1);
            due("each body pays as it begins", x.run(0, 4 + 1 + 4 * bodies[sort] - 1), STOPPED);
            counts("WEIGH stopped", x, 4 + 1 + 4 * (bodies[sort] - 1), bodies[sort]);
        }
        ends("FIELD NULL", -11, a(FIELD, 0, 1, 2));
        ends("FIELD CAST", -13, a(SET, 1, 0), a(FIELD, 0, 1, 2));
        ends("FILL a NULL", -11, a(SET, 1, 0), a(FILL, 0, 1, 1));
        ends("FILL a CAST ahead of c", -13, a(SET, 0, 0), a(FILL, 0, 0, 1));
        ends("FILL V NULL", -11, a(CELL, 0, 0), a(FILL, 0, 0, 1));
        ends("FILL V CAST", -13, a(CELL, 0, 0), a(FILL, 0, 0, 0));
        ends("WEIGH NULL", -11, a(WEIGH, 0, 1));
        ends("WEIGH CAST", -13, a(SET, 1, 0), a(WEIGH, 0, 1));
        gives("WEIGHT wraps", 0, Integer.MIN_VALUE, a(CELL, 0, 0), a(SET, 1, Integer.MAX_VALUE), a(FILL, 0, 0, 1), a(WEIGH, 1, 0), a(GIVE, 1));
    }

    private static void kinds() {
        int[][] things = {a(SET, 0, 3), a(CELL, 0, 0), a(CELL, 0, 1), a(CELL, 0, 2), a(CELL, 0, 3),
            a(ROW, 0, 1, 0), a(ROW, 0, 1, 1), a(ROW, 0, 1, 2), a(ROW, 0, 1, 3), a(ROW, 0, 1, 4), a(MOVE, 0, 5)};
        String[] are = {"100000000001", "010000000001", "011000000001", "011100000001", "011110000001", "000001000011",
            "000000100011", "000000010011", "000000001011", "000000000111", "000000000000"};
        for (int thing = 0; thing < things.length; thing++) {
            for (int kind = 0; kind <= 11; kind++) {
                boolean is = are[thing].charAt(kind) == '1';
                String what = things[thing][0] + " " + thing + " of KIND " + kind;
                gives("IS " + what, 0, is ? 1 : 0, a(SET, 1, 3), things[thing], a(IS, 2, 0, kind), a(GIVE, 2));
                ends("CAST " + what, is || thing == 10 ? 0 : -13, a(SET, 1, 3), things[thing], a(CAST, 0, kind));
            }
        }
        gives("CAST leaves it", 4, 0, a(CELL, 0, 3), a(CAST, 0, 1), a(GIVE, 0));
    }

    private static void jumps() {
        MarkedSteps x = made(a(SET, 0, 3), a(SET, 1, 1), a(SUB, 0, 0, 1), a(BRANCH, 0, 2), a(JUMP, 6), a(SET, 0, 9), a(GIVE, 0));
        due("a loop", x.run(0, 100), 0);
        due("a loop's end", x.result(1), 0);
        counts("a loop", x, 3, 1, 2, 0);
        due("a JUMP to itself ends by the STOP", made(a(JUMP, 0)).run(0, 1000), STOPPED);
        x = made(a(JUMP, 0));
        x.run(0, 7);
        counts("to itself is back", x, 7, 1, 6, 0);
        x = made(a(SET, 0, 1), a(BRANCH, 0, 1));
        x.run(0, 7);
        counts("BRANCH to itself is back", x, 7, 1, 6, 0);
        x = made(a(SET, 0, 0), a(BRANCH, 0, 0), a(JUMP, 3), a(BRANCH, 0, 3));
        due("not taken, ahead: free", x.run(0, 1), 0);
        counts("not taken, ahead: free", x, 1, 1, 0, 0);
        x = made(a(BRANCH, 0, 0));
        due("BRANCH NULL", x.run(0, 9), -11);
        counts("behind what it throws", x, 1, 1, 0, 0);
        ends("BRANCH CAST", -13, a(CELL, 0, 0), a(BRANCH, 0, 0));
    }

    private static void handlersGoneTo() {
        MarkedSteps x = made(a(SET, 0, 77), a(THROW, 0), a(GIVE, 7), a(GIVE, 0));
        due("THROW", x.run(0, 9), -19);
        x.handler(0, 2, 9, 0, 2);
        x.handler(0, 0, 1, 0, 2);
        x.handler(0, 1, 2, 3, 3);
        due("no HANDLER has it", x.run(0, 9), -19);
        x.handler(0, 1, 2, 9, 2);
        x.handler(0, 1, 2, 0, 3);
        due("the first one that has it", x.run(0, 9), 0);
        due("OWN by its NUMBER", x.result(1), 77);
        counts("a HANDLER", x, 2, 1, 0, 1, 0, 0, 1, 0, 0);
        traces("a HANDLER", x, 100, 9);
        int[][][] throwers = {{a(GET, 0, 1, 2)}, {a(SET, 0, 0), a(ROW, 1, 0, 0), a(GET, 2, 1, 0)}, {a(CELL, 0, 0), a(ADD, 0, 0, 0)},
            {a(SET, 0, -1), a(ROW, 0, 0, 0)}, {a(SET, 0, 0), a(DIV, 0, 0, 0)}, {a(CELL, 0, 0), a(LEAVE, 0)}, null, {a(CALL, 0, 5, 0)}};
        for (int kind = 1; kind <= 8; kind++) {
            if (kind == 7) continue;
            x = made(throwers[kind - 1]);
            due("thrown " + kind, x.run(0, 99), -10 - kind);
            due("RESULT is nothing", x.result(0), NONE);
            int n = x.info(0, 1);
            x.act(0, JUMP, 40, 0, 0);
            due("act", x.act(0, GIVE, 7, 0, 0), n + 2);
            x.handler(0, 0, 40, kind == 1 ? 2 : 1, 40);
            x.handler(0, 0, 40, kind, n + 1);
            due("caught " + kind, x.run(0, 99), 0);
            due("its NUMBER", x.result(1), kind);
        }
        x = made(a(SET, 0, 1), a(THROW, 0));
        x.handler(0, 1, 2, 0, 1);
        due("back to itself, paid until the STOP", x.run(0, 10), STOPPED);
        counts("back is no back jump", x, 10, 1, 0, 9);
        due("THROW NULL", made(a(THROW, 0)).run(0, 9), -11);
        due("THROW CAST", made(a(CELL, 0, 0), a(THROW, 0)).run(0, 9), -13);
        x = made(a(SET, 0, 1), a(THROW, 0), a(GIVE, 0));
        x.handler(0, 0, 3, 0, 40);
        due("AT behind the last", x.run(0, 10), 0);
        due("gives nothing", x.result(0), NONE);
    }

    private static void calls() {
        MarkedSteps x = made(a(SET, 6, 10), a(SET, 7, 20), a(SET, 0, 30), a(CALL, 0, 1, 6), a(GIVE, 0));
        more(x, 3, a(SAME, 3, 2, 7), a(ADD, 4, 0, 1), a(ADD, 4, 4, 3), a(GIVE, 4));
        due("CALL", x.run(0, 9), 0);
        due("the registers behind c, beyond 7 nothing", x.result(1), 31);
        counts("CALL", x, 2, 2, 0, 0, 0, 0, 2);
        traces("CALL", x, 100, 101);
        x = made(a(SET, 0, 3), a(CALL, 0, 1, 0), a(GIVE, 0));
        x.member(0);
        due("a MEMBER without ACTS", x.run(0, 9), 0);
        due("gives nothing", x.result(0), NONE);
        for (int none : new int[] {Integer.MIN_VALUE, -1, 1, Integer.MAX_VALUE}) ends("CALL NONE", -18, a(CALL, 0, none, 0));
        x = made(a(CALL, 0, 0, 0));
        due("DEEP", x.run(0, 99), -17);
        counts("DEEP", x, 12, 12, 0, 0, 0, 0, 12, 0, 0);
        x = made(a(CALL, 0, 0, 0), a(CALL, 0, 9, 0));
        x.handler(0, 0, 1, 7, 1);
        due("NONE ahead of DEEP", x.run(0, 99), -18);
        traces("NONE ahead of DEEP", x, 100, 100, 100, 100, 100, 100, 100, 100, 100, 100, 100, 100, 7);
        x = made(a(SET, 3, 1), a(CALL, 3, 1, 0), a(GIVE, 7), a(GIVE, 3));
        more(x, 0, a(SET, 0, 55), a(THROW, 0));
        due("the CALL throws it", x.run(0, 9), -19);
        x.handler(0, 1, 2, 9, 2);
        due("a caller's HANDLER", x.run(0, 9), 0);
        due("with its NUMBER", x.result(1), 55);
        x.cut(0);
        x.cut(0);
        x.act(0, GIVE, 3, 0, 0);
        x.run(0, 9);
        due("a CALL that throws leaves a", x.result(1), 1);
        due("an entry that can't be paid", x.run(0, 1), STOPPED);
        counts("an entry that can't be paid", x, 1, 1, 0, 0, 0, 0, 1);
        due("a HANDLER that can't be paid", x.run(0, 2), STOPPED);
    }

    /** All 12 FRAMES are over with one ACT, in each of the three ways. */
    private static void twelveFrames() {
        int[] one = a(SET, 1, 1), less = a(SUB, 0, 0, 1), on = a(BRANCH, 0, 4), again = a(CALL, 2, 0, 0);
        int[][] innermost = {a(JUMP, 40), a(THROW, 0), a(JUMP, 3)};
        int[] ends = {0, -19, STOPPED};
        for (int i = 0; i < 3; i++) {
            MarkedSteps x = new MarkedSteps();
            more(x, 1, one, less, on, innermost[i], again);
            x.argument(0, 1, 12);
            due("twelve FRAMES", x.run(0, 100), ends[i]);
            due("twelve FRAMES", x.counted(6), 12);
            due("none is left", x.told(5), 0);
            due("walked", x.walk(0, 12), 1);
            due("walked to the innermost ACT", x.step(11 * 4 + 3), 1);
            due("twelve FRAMES", x.frame(0), 12);
            due("over with one ACT", x.step(1), ends[i]);
            due("none is left", x.told(5), 0);
            due("each of them once", x.info(0, 3), 24);
        }
    }

    /** As many ACTS and HANDLERS as there may be. */
    private static void fullMember() {
        MarkedSteps x = made();
        for (int i = 0; i < 39; i++) x.act(0, SET, 0, i, 0);
        x.act(0, THROW, 0, 0, 0);
        for (int h = 0; h < 5; h++) x.handler(0, 39, 40, 1 + h, 0);
        x.handler(0, 0, 39, 0, 0);
        due("none of six has it", x.run(0, 9), -19);
        due("7 of forty ACTS none", x.verify(0), NONE);
        x.cut(0);
        x.act(0, GIVE, 1, 0, 0);
        due("7 the fortieth", x.verify(0), 39);
        x.cut(0);
        x.act(0, GIVE, 0, 0, 0);
        due("forty ACTS", x.run(0, 9), 0);
        due("forty ACTS", x.result(1), 38);
        x.cut(0);
        x.act(0, SET, 3, 1, 0);
        due("behind the fortieth", x.run(0, 9), 0);
        due("gives nothing", x.result(0), NONE);
        due("7 behind the fortieth", x.verify(0), NONE);
    }

    private static void monitors() {
        ends("ENTER NULL", -11, a(ENTER, 0));
        ends("ENTER CAST", -13, a(SET, 0, 0), a(ENTER, 0));
        ends("LEAVE NULL", -11, a(LEAVE, 0));
        ends("LEAVE CAST", -13, a(SET, 0, 0), a(LEAVE, 0));
        ends("LEAVE STATE", -16, a(CELL, 0, 0), a(LEAVE, 0));
        ends("LEAVE too often", -16, a(CELL, 0, 0), a(ENTER, 0), a(LEAVE, 0), a(LEAVE, 0));
        ends("ENTER, LEAVE", 0, a(CELL, 0, 0), a(ENTER, 0), a(ENTER, 0), a(LEAVE, 0), a(LEAVE, 0), a(ENTER, 0), a(LEAVE, 0));
        MarkedSteps x = made(a(CELL, 0, 0), a(CELL, 1, 0), a(ENTER, 0), a(ENTER, 0), a(ENTER, 1), a(CALL, 2, 1, 0), a(LEAVE, 0), a(GIVE, 0));
        more(x, 2, a(ENTER, 0), a(LEAVE, 0), a(ENTER, 1), a(ENTER, 1), a(LEAVE, 0));
        due("not what the caller holds", x.run(0, 99), -16);
        counts("holdings of those that were over", x, 4, 2, 0, 0, 2, 0, 2, 6, 2 + 3);
        x.handler(0, 0, 40, 6, 6);
        due("caught", x.run(0, 99), 0);
        due("free behind a run", x.result(2), 0);
        counts("the caller's hold outlives the call", x, 5, 2, 0, 1, 2, 0, 2, 6, 2 + 2);
        x = made(a(CELL, 0, 0), a(ENTER, 0), a(ENTER, 0), a(JUMP, 3));
        due("held at the STOP", x.run(0, 9), STOPPED);
        counts("held at the STOP", x, 9, 1, 7, 0, 1, 0, 1, 2, 2);
        x = made(a(LEAVE, 0));
        more(x, 0, a(CELL, 0, 0), a(ENTER, 0), a(GIVE, 0));
        more(x, 1, a(LEAVE, 0));
        x.run(1, 9);
        due("given while held", x.result(0), 1);
        due("free", x.result(2), 0);
        x.argument(0, 2, 0);
        due("not held by a later FRAME", x.run(2, 9), -16);
        x = made(a(CELL, 0, 0), a(ENTER, 0), a(ENTER, 0));
        more(x, 0, a(CELL, 0, 0), a(ENTER, 0), a(LEAVE, 0), a(LEAVE, 0));
        x.run(0, 9);
        due("a later FRAME holds it but once", x.run(1, 9), -16);
        x = made(a(CELL, 0, 0), a(CALL, 1, 1, 0), a(CALL, 1, 1, 0), a(ENTER, 0), a(LEAVE, 0), a(GIVE, 0));
        more(x, 1, a(ENTER, 0), a(CALL, 1, 2, 0), a(LEAVE, 0), a(ENTER, 0));
        more(x, 1, a(ENTER, 0), a(ENTER, 0), a(LEAVE, 0));
        due("FRAMES upon FRAMES with one MONITOR", x.run(0, 99), 0);
        counts("FRAMES upon FRAMES with one MONITOR", x, 6, 5, 0, 0, 1, 0, 3, 9, 4);
        due("free", x.result(2), 0);
    }

    private static void stops() {
        MarkedSteps x = made(a(SET, 0, 5), a(ROW, 1, 0, 0), a(GIVE, 1));
        due("just enough", x.run(0, 7), 0);
        counts("just enough", x, 7, 1, 0, 0, 1, 5);
        due("one too few", x.run(0, 6), STOPPED);
        counts("it takes nothing", x, 1, 1, 0, 0, 0, 0);
        due("left", x.left(), 6000 - 8);
        due("RESULT is nothing", x.result(0), NONE);
        x = made(a(JUMP, 0));
        for (int i = 0; i < 5; i++) due("loop", x.run(0, 1000), STOPPED);
        due("loop", x.run(0, 995), STOPPED);
        due("18 left", x.left(), 5);
        due("THE HOUSE", x.run(0, 1000), STOPPED);
        counts("THE HOUSE", x, 5, 1, 4);
        due("18 none left", x.left(), 0);
        due("none left", x.run(0, 1000), STOPPED);
        due("none left", x.walk(0, 1000), STOPPED);
        counts("none left", x, 0, 0, 0, 0, 0, 0, 0);
        traces("none left", x);
        due("no WALK", x.told(5), 0);
        x = made(a(SET, 0, 998), a(ROW, 1, 0, 4), a(SET, 0, 997), a(GET, 2, 1, 0), a(GIVE, 1));
        due("the largest ROW", x.run(0, 1000), 0);
        due("its cells", x.result(1), 998);
        x.price(4, 9);
        x.price(3, 9);
        due("too dear", x.run(0, 1000), STOPPED);
    }

    private static void result() {
        for (int w : new int[] {Integer.MIN_VALUE, -1, 3, Integer.MAX_VALUE}) due("13 OUTSIDE", new MarkedSteps().result(w), OUTSIDE);
        for (int sort = 0; sort < 4; sort++) gives("13 CELL", sort + 1, -4, a(CELL, 0, sort), a(SET, 1, -4), a(FILL, 0, 0, 1), a(GIVE, 0));
        for (int lane = 0; lane < 5; lane++) gives("13 ROW", lane + 5, 6, a(SET, 1, 6), a(ROW, 0, 1, lane), a(GIVE, 0));
        gives("13 NUMBER", 0, Integer.MIN_VALUE, a(SET, 0, Integer.MIN_VALUE), a(GIVE, 0));
        gives("13 nothing", NONE, 0, a(GIVE, 0));
    }

    private static void into() {
        MarkedSteps x = made(a(CELL, 0, 1), a(CELL, 1, 3), a(FILL, 0, 1, 1), a(SET, 2, 8), a(FILL, 1, 1, 2), a(GIVE, 0));
        x.run(0, 9);
        due("14 NEXT, i is not looked at", x.into(-1), 4);
        due("14 RESULT", x.result(0), 4);
        due("14 NEXT a NUMBER", x.into(99), 0);
        due("14 RESULT", x.result(1), 8);
        due("14 of a NUMBER", x.into(0), NO);
        due("14 changes nothing", x.result(1), 8);
        x = made(a(CELL, 0, 1), a(GIVE, 0));
        x.run(0, 9);
        due("14 NEXT nothing", x.into(0), NONE);
        due("14 of nothing", x.into(0), NO);
        x = made(a(SET, 0, 2), a(ROW, 1, 0, 4), a(SET, 2, 5), a(ROW, 3, 2, 0), a(SET, 0, 1), a(PUT, 1, 0, 3), a(GIVE, 1));
        x.run(0, 99);
        for (int i : new int[] {Integer.MIN_VALUE, -1, 2, Integer.MAX_VALUE}) due("14 OUTSIDE", x.into(i), OUTSIDE);
        due("14 a ROW", x.into(1), 5);
        due("14 its cells", x.result(1), 5);
        due("14 neither", x.into(0), NO);
        due("14 still there", x.result(1), 5);
        x.run(0, 99);
        due("14 nothing", x.into(0), NONE);
        due("14 RESULT", x.result(0), NONE);
    }

    private static void cell() {
        for (int lane = 0; lane < 4; lane++) {
            MarkedSteps x = made(a(SET, 0, 3), a(ROW, 1, 0, lane), a(SET, 0, 2), a(SET, 2, 88), a(PUT, 1, 0, 2), a(GIVE, 1));
            x.run(0, 9);
            due("15 cell", x.cell(2), 88);
            due("15 cell", x.cell(0), 0);
            for (int i : new int[] {Integer.MIN_VALUE, -1, 3, Integer.MAX_VALUE}) due("15 no such cell", x.cell(i), 0);
        }
        MarkedSteps x = made(a(SET, 0, 1), a(ROW, 1, 0, 4), a(ROW, 2, 0, 0), a(SET, 0, 0), a(PUT, 1, 0, 2), a(GIVE, 1));
        x.run(0, 9);
        due("15 LANE 4", x.cell(0), 0);
        due("15 nothing", new MarkedSteps().cell(0), 0);
        x = made(a(SET, 0, 5), a(GIVE, 0));
        x.run(0, 9);
        due("15 a NUMBER", x.cell(0), 0);
        x = made(a(SET, 0, 2), a(ROW, 1, 0, 1), a(SET, 2, 255), a(SET, 0, 0), a(PUT, 1, 0, 2), a(GIVE, 1));
        x.run(0, 9);
        due("15 with its sign", x.cell(0), -1);
    }

    private static void counted() {
        MarkedSteps x = made(a(CELL, 0, 0), a(ENTER, 0));
        for (int w : new int[] {Integer.MIN_VALUE, -1, 9, Integer.MAX_VALUE}) due("16 OUTSIDE", x.counted(w), OUTSIDE);
        x.run(0, 9);
        counts("16 of a run", x, 2, 1, 0, 0, 1, 0, 1, 1, 1);
        x.run(1, 9);
        x.run(0, 1001);
        counts("16 stays with a refusal", x, 2, 1, 0, 0, 1, 0, 1, 1, 1);
        x.walk(0, 9);
        counts("16 of the walk as it begins", x, 1, 1, 0, 0, 0, 0, 1, 0, 0);
        x.step(1);
        counts("16 as it goes on", x, 2, 1, 0, 0, 1, 0, 1, 0, 0);
        x.step(1);
        counts("16 as it is over", x, 2, 1, 0, 0, 1, 0, 1, 1, 1);
    }

    private static void trace() {
        MarkedSteps x = made(a(SET, 0, 40), a(CALL, 1, 1, 0), a(SET, 1, 1), a(SUB, 0, 0, 1), a(BRANCH, 0, 1));
        more(x, 0, a(THROW, 0), a(DIV, 0, 7, 0), a(GIVE, 0));
        x.handler(1, 0, 1, 0, 2);
        x.run(0, 1000);
        due("17 first", x.trace(0), 100);
        due("17 second", x.trace(1), 101);
        due("17 third", x.trace(2), 1);
        due("17 fourth", x.trace(3), 101);
        due("17 behind the last", x.trace(81), NONE);
        for (int i : WRONG) due("17 NONE", x.trace(i), NONE);
        x.cut(0);
        x.act(0, JUMP, 1, 0, 0);
        due("17 a longer one", x.run(0, 1000), STOPPED);
        due("17 the hundredth", x.trace(99), 101);
        due("17 no more", x.trace(100), NONE);
        x.run(0, 1);
        traces("17 the entry that is not paid", x, 100);
        x.run(0, 2);
        traces("17 the HANDLER that is not paid", x, 100, 101);
        x.run(0, 0);
        traces("17 none", x);
    }

    private static void walk() {
        MarkedSteps x = made(a(SET, 0, 6), a(GIVE, 0));
        due("19 UNKNOWN ahead of OUTSIDE", x.walk(1, -1), UNKNOWN);
        due("19 UNKNOWN", x.walk(-1, 5), UNKNOWN);
        for (int b : new int[] {Integer.MIN_VALUE, -1, 1001, Integer.MAX_VALUE}) due("19 OUTSIDE", x.walk(0, b), OUTSIDE);
        due("19 stopped at once", x.walk(0, 0), STOPPED);
        due("19 no WALK", x.told(5), 0);
        x.run(0, 5);
        due("19 it begins", x.walk(0, 1), 1);
        due("19 RESULT is nothing", x.result(0), NONE);
        due("19 ahead of ACT 0", x.frame(2), 0);
        due("19 NO", x.walk(0, 1), NO);
        due("19 OUTSIDE ahead of NO", x.walk(0, 1001), OUTSIDE);
        due("19 UNKNOWN ahead of NO", x.walk(4, 1), UNKNOWN);
        due("20 step", x.step(1), 1);
        due("20 step", x.step(1), 0);
        due("20 RESULT", x.result(1), 6);
        due("20 none", x.step(1), NO);
        x = made();
        due("19 over at once", x.walk(0, 1), 0);
        due("19 it gave", x.told(4), 1);
        due("19 no WALK", x.told(5), 0);
    }

    private static void step() {
        MarkedSteps x = made(a(SET, 0, 6), a(CALL, 1, 1, 0), a(CALL, 2, 2, 0));
        more(x, 1, a(SET, 3, 1), a(ADD, 0, 0, 3));
        x.member(0);
        for (int n : new int[] {Integer.MIN_VALUE, -1, 0, 1001, Integer.MAX_VALUE}) due("20 OUTSIDE ahead of NO", x.step(n), OUTSIDE);
        due("20 NO", x.step(1), NO);
        x.walk(0, 9);
        due("20 OUTSIDE", x.step(0), OUTSIDE);
        due("20 two ACTS", x.step(2), 1);
        due("20 in the CALL", x.frame(0), 2);
        due("20 ahead of its ACT 0", x.frame(2), 0);
        due("20 its argument", x.register(0, 1), 6);
        due("20 one", x.step(1), 1);
        due("20 the last of the FRAME: it is over with it", x.step(1), 1);
        due("20 back", x.frame(0), 1);
        due("20 behind the CALL", x.frame(2), 2);
        due("20 what it gave", x.register(1, 0), NONE);
        due("20 a FRAME without ACTS, then its caller is over", x.step(1), 0);
        due("20 FRAMES", x.info(2, 3), 1);
        x = made(a(SET, 0, 6), a(THROW, 0), a(SET, 1, 1));
        x.handler(0, 1, 2, 0, 40);
        x.walk(0, 9);
        due("20 more than there are; the HANDLER's AT is behind the last", x.step(1000), 0);
        due("20 steps", x.counted(0), 2);
        x = made(a(CELL, 0, 0), a(THROW, 0));
        x.walk(0, 9);
        due("20 it throws", x.step(5), -13);
        due("20 threw", x.told(3), 1);
        x.walk(0, 1);
        due("20 the STOP", x.step(5), STOPPED);
        due("20 stopped", x.told(2), 1);
        x = made(a(SET, 0, 1), a(JUMP, 0));
        x.walk(0, 1000);
        due("20 a thousand", x.step(1000), 1);
        due("20 a thousand ACTS", x.counted(2), 500);
    }

    private static void frame() {
        MarkedSteps x = made(a(CELL, 0, 0), a(ENTER, 0), a(ENTER, 0), a(CALL, 1, 1, 0), a(LEAVE, 0), a(SET, 0, 0));
        more(x, 1, a(ENTER, 0), a(SET, 1, 1));
        for (int w : new int[] {Integer.MIN_VALUE, -1, 4, Integer.MAX_VALUE}) due("21 OUTSIDE ahead of NO", x.frame(w), OUTSIDE);
        due("21 NO", x.frame(0), NO);
        x.walk(0, 9);
        int[][] want = {{1, 0, 0, 0}, {1, 0, 1, 0}, {1, 0, 2, 1}, {1, 0, 3, 2}, {2, 1, 0, 2}, {2, 1, 1, 3}, {1, 0, 4, 2}, {1, 0, 5, 1}};
        for (int i = 0; i < want.length; i++) {
            for (int w = 0; w < 4; w++) due("21 frame(" + w + ") behind " + i, x.frame(w), want[i][w]);
            x.step(1);
        }
        due("21 over", x.frame(0), NO);
        due("21 holdings over", x.counted(8), 2);
    }

    /** frame(3) is of the WALK: the holdings of all its FRAMES, wherever it is paused. */
    private static void holdingsOfTheWalk() {
        MarkedSteps x = made(a(CELL, 1, 0), a(GIVE, 1));
        x.run(0, 2);
        x.argument(0, 2, 0);
        more(x, 1, a(ENTER, 0), a(CALL, 0, 0, 0));
        x.walk(1, 2);
        x.step(2);
        due("21 the calling FRAME's holding", x.frame(3), 1);

        x = made(a(CELL, 0, 3), a(CELL, 1, 0), a(ENTER, 0), a(CALL, 2, 1, 0), a(LEAVE, 0), a(SET, 0, 0));
        more(x, 2, a(ENTER, 0), a(ENTER, 1), a(CALL, 2, 2, 0), a(LEAVE, 1), a(SET, 0, 0));
        more(x, 1, a(ENTER, 0), a(LEAVE, 0), a(LEAVE, 0), a(SET, 0, 0));
        x.handler(1, 2, 3, 6, 3);
        int[] want = {0, 0, 0, 1, 1, 2, 3, 3, 4, 3, 3, 2, 1, 0};
        x.walk(0, 50);
        for (int i = 0; i < want.length; i++) {
            due("21 holdings of three FRAMES, " + i, x.frame(3), want[i]);
            due("21 it goes on or gives", x.step(1), i == want.length - 1 ? 0 : 1);
        }
        due("21 no WALK has none", x.frame(3), NO);

        x.walk(0, 50);
        x.step(8);
        due("21 ahead of drop()", x.frame(3), 4);
        x.drop();
        due("21 behind drop()", x.frame(3), NO);
        x.walk(0, 50);
        due("21 a new WALK has none", x.frame(3), 0);

        x = made(a(CELL, 0, 0), a(ENTER, 0), a(CALL, 1, 1, 0), a(SET, 0, 0));
        more(x, 1, a(ENTER, 0), a(ENTER, 0), a(SET, 1, 5), a(THROW, 1), a(SET, 1, 6));
        x.handler(0, 0, 4, 9, 3);
        x.walk(0, 50);
        x.step(6);
        due("21 ahead of THROW", x.frame(3), 3);
        x.step(1);
        due("21 the FRAME that threw is over", x.frame(3), 1);
    }

    private static void register() {
        MarkedSteps x = made(a(SET, 0, -6), a(CELL, 1, 2), a(FILL, 1, 0, 0), a(SET, 2, 4), a(ROW, 3, 2, 4), a(SET, 5, 0));
        for (int k : new int[] {Integer.MIN_VALUE, -1, 8, Integer.MAX_VALUE}) due("22 OUTSIDE ahead of NO", x.register(k, 0), OUTSIDE);
        for (int w : new int[] {Integer.MIN_VALUE, -1, 2, Integer.MAX_VALUE}) due("22 OUTSIDE", x.register(0, w), OUTSIDE);
        due("22 NO", x.register(0, 0), NO);
        x.walk(0, 99);
        x.step(5);
        int[][] want = {{0, -6}, {3, -6}, {0, 4}, {9, 4}, {NONE, 0}, {NONE, 0}, {NONE, 0}, {NONE, 0}};
        for (int k = 0; k < 8; k++) for (int w = 0; w < 2; w++) due("22 register(" + k + ", " + w + ")", x.register(k, w), want[k][w]);
        due("22 OUTSIDE", x.register(8, 0), OUTSIDE);
        x.step(1);
        due("22 over", x.register(0, 0), NO);
        x = made(a(SET, 0, 1), a(CALL, 1, 1, 0), a(SET, 0, 3));
        more(x, 0, a(SET, 4, 4), a(GIVE, 4));
        x.walk(0, 9);
        x.step(3);
        due("22 the FRAME at hand", x.register(0, 0), NONE);
        due("22 the FRAME at hand", x.register(4, 1), 4);
        x.step(1);
        due("22 the caller's again", x.register(0, 1), 1);
        due("22 what it gave", x.register(1, 1), 4);
        due("22 not the callee's", x.register(4, 0), NONE);
        x.drop();
        x.walk(1, 9);
        due("22 a new FRAME's registers are nothing", x.register(0, 0), NONE);
    }

    private static void drop() {
        MarkedSteps x = made(a(SET, 0, 1), a(NOTE, 0, 0), a(CELL, 1, 0), a(ENTER, 1), a(CALL, 2, 1, 1), a(SET, 0, 0));
        more(x, 1, a(ENTER, 0), a(ENTER, 0), a(SET, 1, 1));
        due("23 NO", x.drop(), NO);
        x.set(1, 50);
        x.walk(0, 20);
        x.step(7);
        due("23 two FRAMES", x.frame(0), 2);
        due("23 the plan on the way", x.plan(1), 1);
        due("23 drop", x.drop(), 1);
        due("23 the plan as before", x.plan(1), 50);
        due("23 the plan as before", x.plan(0), 0);
        counts("23 holdings over", x, 3, 2, 0, 0, 1, 0, 2, 3, 3);
        due("23 stopped", x.told(2), 1);
        due("23 no WALK", x.told(5), 0);
        due("23 none now", x.drop(), NO);
        due("23 no FRAMES", x.frame(0), NO);
        due("23 RESULT", x.result(0), NONE);
        due("23 it can run again", x.run(0, 20), 0);
        due("23 the plan by a run", x.plan(1), 1);
        due("23 no further stop", x.told(2), 1);
    }

    private static void told() {
        MarkedSteps x = made(a(BRANCH, 0, 1));
        x.cut(0);
        x.act(0, THROW, 0, 0, 0);
        more(x, 0);
        more(x, 0, a(JUMP, 0));
        for (int w : new int[] {Integer.MIN_VALUE, -1, 6, Integer.MAX_VALUE}) due("24 OUTSIDE", x.told(w), OUTSIDE);
        x.run(0, 5);
        x.run(1, 5);
        x.run(1, 5);
        x.run(2, 5);
        x.run(2, 5);
        x.run(2, 5);
        x.walk(1, 5);
        x.walk(2, 5);
        int[] on = {3, 8, 3, 1, 3, 1}, behind = {3, 8, 4, 1, 3, 0};
        for (int w = 0; w <= 5; w++) due("24 told(" + w + ")", x.told(w), on[w]);
        x.run(1, 5);
        x.drop();
        for (int w = 0; w <= 5; w++) due("24 told(" + w + ") behind", x.told(w), behind[w]);
    }

    /** What a stopped run made of THINGS that were there ahead of it stays: THE PLAN alone is as before. */
    private static void thingsStay() {
        MarkedSteps x = made(a(CELL, 0, 0), a(GIVE, 0));
        more(x, 1, a(SET, 1, 9), a(FILL, 0, 0, 1), a(ENTER, 0), a(JUMP, 3));
        more(x, 1, a(GIVE, 0));
        x.run(0, 9);
        x.argument(0, 2, 0);
        due("stopped", x.run(1, 9), STOPPED);
        due("given", x.run(2, 9), 0);
        due("V", x.result(1), 9);
        due("its MONITOR is free", x.result(2), 0);
    }

    public static void main(String[] args) {
        newObject();
        member();
        act();
        handler();
        cut();
        price();
        prices();
        verify();
        info();
        set();
        planInRuns();
        argument();
        run();
        reckoning();
        rows();
        cells();
        kinds();
        jumps();
        handlersGoneTo();
        calls();
        twelveFrames();
        fullMember();
        monitors();
        stops();
        result();
        into();
        cell();
        counted();
        trace();
        walk();
        step();
        frame();
        holdingsOfTheWalk();
        register();
        drop();
        told();
        thingsStay();
        tellAndEnd();
    }
}
