/** What the tests of single answers share: how members are made, how answers are compared. */
abstract class Asked {
    static final int UNKNOWN = -1, OUTSIDE = -2, NO = -3, FULL = -4, NONE = -5, STOPPED = -9;
    static final int SET = 0, MOVE = 1, ADD = 2, SUB = 3, MUL = 4, DIV = 5, REST = 6, LESS = 7, SAME = 8, JUMP = 9,
        BRANCH = 10, ROW = 11, CELL = 12, PUT = 13, GET = 14, LENGTH = 15, FIELD = 16, FILL = 17, IS = 18, CAST = 19,
        ENTER = 20, LEAVE = 21, THROW = 22, CALL = 23, GIVE = 24, NOTE = 25, ASK = 26, WEIGH = 27;
    static final int MIN = Integer.MIN_VALUE, MAX = Integer.MAX_VALUE;
    static final int[] WRONG = {MIN, -1, MAX};
    private static int wrong = 0, asked = 0;

    static void due(String call, int got, int want) {
        asked++;
        if (got != want) {
            wrong++;
            System.out.println(call + " answered " + got + ", due is " + want);
        }
    }

    static void tellAndEnd() {
        System.out.println(asked + " answers asked, " + wrong + " not as due");
        if (wrong != 0) System.exit(1);
    }

    /** A new object with one MEMBER, 0, that wants nothing and has these ACTS. */
    static MarkedSteps made(int[]... acts) {
        MarkedSteps x = new MarkedSteps();
        more(x, 0, acts);
        return x;
    }

    static int more(MarkedSteps x, int wants, int[]... acts) {
        int m = x.member(wants);
        for (int i = 0; i < acts.length; i++) due("an act that fits", x.act(m, acts[i][0], acts[i][1], acts[i][2], acts[i][3]), i + 1);
        return m;
    }

    static int[] a(int op, int a, int b, int c) { return new int[] {op, a, b, c}; }

    static int[] a(int op, int a, int b) { return new int[] {op, a, b, -7}; }

    static int[] a(int op, int a) { return new int[] {op, a, -7, 99}; }

    static void counts(String run, MarkedSteps x, int... want) {
        for (int i = 0; i < want.length; i++) due(run + ": counted(" + i + ")", x.counted(i), want[i]);
    }

    static void traces(String run, MarkedSteps x, int... want) {
        for (int i = 0; i < want.length; i++) due(run + ": trace(" + i + ")", x.trace(i), want[i]);
        due(run + ": trace behind its end", x.trace(want.length), NONE);
    }

    /** Runs these ACTS alone, with plenty to pay from. */
    static void ends(String what, int want, int[]... acts) {
        due(what, made(acts).run(0, 1000), want);
    }

    static void gives(String what, int kind, int number, int[]... acts) {
        MarkedSteps x = made(acts);
        due(what + ": run", x.run(0, 1000), 0);
        due(what + ": kind", x.result(0), kind);
        due(what + ": number", x.result(1), number);
    }
}
