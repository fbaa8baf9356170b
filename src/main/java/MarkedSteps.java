/**
 * Members of made code whose steps are marked and paid. The document is ../shared/DOC.md; words in
 * capitals here are its terms, and "behind" means after, "ahead of" means before, as there.
 */
public final class MarkedSteps {
    public static final int UNKNOWN = -1, OUTSIDE = -2, NO = -3, FULL = -4, NONE = -5, STOPPED = -9;

    private static final int MOST_MEMBERS = 10, MOST_WANTED = 3, MOST_ACTS = 40, MOST_HANDLERS = 6;
    private static final int MOST_FRAMES = 12, REGISTERS = 8, CAUGHT = 7, PLAN_CELLS = 12;
    private static final int MOST_BUDGET = 1000, HOUSE_STEPS = 6000, MOST_STEPPED = 1000;
    private static final int MOST_TRACED = 100, TRACED_FRAME = 100, PRICES = 5, MOST_PRICE = 9, COUNTS = 9;

    // A step pays for 40 ACTS at most, so a run ends far below this; it only bounds the loop.
    private static final int FAR_ABOVE_ANY_RUN = 1000000;

    private static final int SET = 0, MOVE = 1, ADD = 2, SUB = 3, MUL = 4, DIV = 5, REST = 6, LESS = 7, SAME = 8;
    private static final int JUMP = 9, BRANCH = 10, ROW = 11, CELL = 12, PUT = 13, GET = 14, LENGTH = 15;
    private static final int FIELD = 16, FILL = 17, IS = 18, CAST = 19, ENTER = 20, LEAVE = 21, THROW = 22;
    private static final int CALL = 23, GIVE = 24, NOTE = 25, ASK = 26, WEIGH = 27, OPS = 28;

    // By OP, which of the registers a (1), b (2), c (4) it looks at; of CALL, only that c is a register's name.
    private static final int[] LOOKS_AT = {
        0, 2, 6, 6, 6, 6, 6, 6, 6, 0, 1, 2, 0, 7, 6, 2, 2, 5, 2, 1, 1, 1, 1, 4, 1, 3, 2, 2};
    // By OP, 1 if register a becomes something by it.
    private static final int[] MAKES_A = {
        1, 1, 1, 1, 1, 1, 1, 1, 1, 0, 0, 1, 1, 0, 1, 1, 1, 0, 1, 0, 0, 0, 0, 1, 0, 0, 1, 1};

    private static final int NUMBER = 0, PLAIN = 1, GRAND = 4, FIRST_ROW = 5, ANY_ROW = 10, ANY_THING = 11;
    private static final int BYTES = 1, SIGNS = 2, ROWS = 4;
    private static final int HEAVY_SORT = 1, ODD_SORT = 2, GRAND_SORT = 3;
    private static final int ELDER_MARK = 1, OTHER_MARK = 7;

    private static final int THROWN_NULL = 1, THROWN_INDEX = 2, THROWN_CAST = 3, THROWN_SIZE = 4, THROWN_ZERO = 5;
    private static final int THROWN_STATE = 6, THROWN_DEEP = 7, THROWN_NONE = 8, THROWN_OWN = 9;

    // What an ACT answers: done; gone elsewhere by itself; else STOPPED, or the KIND (above 0) that it throws.
    private static final int DONE = 0, GONE = -1;
    // What a run answers: it gave; it goes on (walks alone); less the KIND: it threw; else STOPPED.
    private static final int GAVE = 0, GOES_ON = 1, THREW = -10;

    private static final int ENTRY = 0, BACK_JUMP = 1, TO_HANDLER = 2, MAKING = 3, ROW_CELL = 4;
    private static final int COUNTED_DEPTH = 6, COUNTED_ENTERED = 7, COUNTED_LEFT_HELD = 8;

    private final Machine machine;
    private final Verifier verifier;
    private final Slot[] arguments;

    public MarkedSteps() {
        machine = new Machine();
        verifier = new Verifier();
        arguments = new Slot[MOST_WANTED];
        for (int k = 0; k < MOST_WANTED; k++) {
            arguments[k] = new Slot();
        }
    }

    // ---- members

    public int member(int wants) {
        if (isOutside(wants, 0, MOST_WANTED)) {
            return OUTSIDE;
        }
        if (machine.isWalked()) {
            return NO;
        }
        if (machine.memberCount >= MOST_MEMBERS) {
            return FULL;
        }
        int number = machine.memberCount;
        machine.members[number].wants = wants;
        machine.memberCount++;
        return number;
    }

    public int act(int member, int op, int a, int b, int c) {
        if (machine.lacksMember(member)) {
            return UNKNOWN;
        }
        if (isOutside(op, 0, OPS - 1) || namesWrongRegister(op, a, b, c) || namesWrongNumber(op, a, b, c)) {
            return OUTSIDE;
        }
        if (machine.isWalked()) {
            return NO;
        }
        Member code = machine.members[member];
        return code.actCount >= MOST_ACTS ? FULL : code.addAct(op, a, b, c);
    }

    public int handler(int member, int from, int to, int kind, int at) {
        if (machine.lacksMember(member)) {
            return UNKNOWN;
        }
        if (isOutside(from, 0, MOST_ACTS) || isOutside(to, 0, MOST_ACTS)
                || isOutside(kind, 0, THROWN_OWN) || isOutside(at, 0, MOST_ACTS)) {
            return OUTSIDE;
        }
        if (machine.isWalked()) {
            return NO;
        }
        Member code = machine.members[member];
        return code.handlerCount >= MOST_HANDLERS ? FULL : code.addHandler(from, to, kind, at);
    }

    public int cut(int member) {
        if (machine.lacksMember(member)) {
            return UNKNOWN;
        }
        Member code = machine.members[member];
        if (machine.isWalked() || code.actCount == 0) {
            return NO;
        }
        code.actCount--;
        return code.actCount;
    }

    public int price(int kind, int n) {
        if (isOutside(kind, 0, PRICES - 1) || isOutside(n, 1, MOST_PRICE)) {
            return OUTSIDE;
        }
        if (machine.isWalked()) {
            return NO;
        }
        int before = machine.purse.prices[kind];
        machine.purse.prices[kind] = n;
        return before;
    }

    public int verify(int member) {
        if (machine.lacksMember(member)) {
            return UNKNOWN;
        }
        return verifier.leastActThatLooksAtUnset(machine, machine.members[member]);
    }

    public int info(int member, int what) {
        if (machine.lacksMember(member)) {
            return UNKNOWN;
        }
        Member code = machine.members[member];
        switch (what) {
            case 0: return code.wants;
            case 1: return code.actCount;
            case 2: return code.handlerCount;
            case 3: return code.framesBegun;
            default: return OUTSIDE;
        }
    }

    // ---- the plan, arguments

    public int set(int i, int v) {
        if (isOutside(i, 0, PLAN_CELLS - 1)) {
            return OUTSIDE;
        }
        if (machine.isWalked()) {
            return NO;
        }
        int before = machine.plan[i];
        machine.plan[i] = v;
        return before;
    }

    public int plan(int i) {
        return isOutside(i, 0, PLAN_CELLS - 1) ? OUTSIDE : machine.plan[i];
    }

    public int argument(int k, int kind, int n) {
        if (isOutside(k, 0, MOST_WANTED - 1)) {
            return OUTSIDE;
        }
        switch (kind) {
            case 0: arguments[k].becomeNothing(); return 1;
            case 1: arguments[k].becomeNumber(n); return 1;
            case 2: arguments[k].copy(machine.result); return 1;
            default: return OUTSIDE;
        }
    }

    // ---- runs

    public int run(int member, int budget) {
        int refusal = refusalToBegin(member, budget);
        if (refusal != 0) {
            return refusal;
        }
        int answer = machine.begin(member, budget, arguments);
        return answer == GOES_ON ? machine.doActs(FAR_ABOVE_ANY_RUN) : answer;
    }

    public int result(int what) {
        Slot result = machine.result;
        switch (what) {
            case 0: return result.kind;
            case 1: return result.measure();
            case 2: return result.cell == null ? 0 : result.cell.timesHeld();
            default: return OUTSIDE;
        }
    }

    public int into(int i) {
        Slot result = machine.result;
        Cell cell = result.cell;
        if (cell != null) {
            result.copy(cell.next);
            return result.kind;
        }
        Row row = result.row;
        if (row == null || row.lane != ROWS) {
            return NO;
        }
        if (row.lacksCell(i)) {
            return OUTSIDE;
        }
        row.copyTo(result, i);
        return result.kind;
    }

    public int cell(int i) {
        Row row = machine.result.row;
        return row == null || row.lane == ROWS || row.lacksCell(i) ? 0 : row.numbers[i];
    }

    public int counted(int what) {
        return isOutside(what, 0, COUNTS - 1) ? OUTSIDE : machine.purse.counts[what];
    }

    public int trace(int i) {
        return i < 0 || i >= machine.tracedCount ? NONE : machine.traced[i];
    }

    public int left() {
        return machine.purse.house;
    }

    // ---- walks

    public int walk(int member, int budget) {
        int refusal = refusalToBegin(member, budget);
        return refusal != 0 ? refusal : machine.begin(member, budget, arguments);
    }

    public int step(int n) {
        if (isOutside(n, 1, MOST_STEPPED)) {
            return OUTSIDE;
        }
        return machine.isWalked() ? machine.doActs(n) : NO;
    }

    public int frame(int what) {
        if (isOutside(what, 0, 3)) {
            return OUTSIDE;
        }
        if (!machine.isWalked()) {
            return NO;
        }
        Frame top = machine.top();
        switch (what) {
            case 0: return machine.depth;
            case 1: return top.number;
            case 2: return top.at;
            default: return machine.holdings();
        }
    }

    public int register(int k, int what) {
        if (isOutside(k, 0, REGISTERS - 1) || isOutside(what, 0, 1)) {
            return OUTSIDE;
        }
        if (!machine.isWalked()) {
            return NO;
        }
        Slot held = machine.top().registers[k];
        return what == 0 ? held.kind : held.measure();
    }

    public int drop() {
        if (!machine.isWalked()) {
            return NO;
        }
        machine.stop();
        return 1;
    }

    public int told(int what) {
        switch (what) {
            case 0: return machine.memberCount;
            case 1: return machine.begun;
            case 2: return machine.stopped;
            case 3: return machine.threw;
            case 4: return machine.gave;
            case 5: return machine.isWalked() ? 1 : 0;
            default: return OUTSIDE;
        }
    }

    private int refusalToBegin(int member, int budget) {
        if (machine.lacksMember(member)) {
            return UNKNOWN;
        }
        if (isOutside(budget, 0, MOST_BUDGET)) {
            return OUTSIDE;
        }
        return machine.isWalked() ? NO : 0;
    }

    private static boolean isOutside(int n, int least, int most) {
        return n < least || n > most;
    }

    private static boolean namesWrongRegister(int op, int a, int b, int c) {
        int named = LOOKS_AT[op] | MAKES_A[op];
        return (named & 1) != 0 && isOutside(a, 0, REGISTERS - 1)
                || (named & 2) != 0 && isOutside(b, 0, REGISTERS - 1)
                || (named & 4) != 0 && isOutside(c, 0, REGISTERS - 1);
    }

    private static boolean namesWrongNumber(int op, int a, int b, int c) {
        switch (op) {
            case JUMP: return isOutside(a, 0, MOST_ACTS);
            case BRANCH: return isOutside(b, 0, MOST_ACTS);
            case ROW: return isOutside(c, 0, ROWS);
            case CELL: return isOutside(b, 0, GRAND_SORT);
            case FIELD: return isOutside(c, 0, 3);
            case FILL: return isOutside(b, 0, 1);
            case IS: return isOutside(c, 0, ANY_THING);
            case CAST: return isOutside(b, 0, ANY_THING);
            default: return false;
        }
    }

    /** A place that holds a THING. NUMBERS stand in it by themselves, so that reckoning makes no objects. */
    private static final class Slot {
        private int kind = NONE;
        private int number;
        private Cell cell;
        private Row row;

        private void becomeNothing() {
            kind = NONE;
            number = 0;
            cell = null;
            row = null;
        }

        private void becomeNumber(int n) {
            becomeNothing();
            kind = NUMBER;
            number = n;
        }

        private void becomeCell(Cell made) {
            becomeNothing();
            kind = PLAIN + made.sort;
            cell = made;
        }

        private void becomeRow(Row made) {
            becomeNothing();
            kind = FIRST_ROW + made.lane;
            row = made;
        }

        private void copy(Slot from) {
            kind = from.kind;
            number = from.number;
            cell = from.cell;
            row = from.row;
        }

        private boolean isNothing() {
            return kind == NONE;
        }

        private boolean isOf(int wanted) {
            if (isNothing()) {
                return false;
            }
            if (wanted >= PLAIN && wanted <= GRAND) {
                return cell != null && kind >= wanted;
            }
            if (wanted == ANY_ROW) {
                return row != null;
            }
            return wanted == ANY_THING || kind == wanted;
        }

        private boolean isSameAs(Slot other) {
            return kind == other.kind && number == other.number && cell == other.cell && row == other.row;
        }

        private int measure() {
            if (cell != null) {
                return cell.v;
            }
            return row != null ? row.size : number;
        }

        /** What is thrown where a THING of another kind than this one has to be. */
        private int misfit() {
            return kind == NONE ? THROWN_NULL : THROWN_CAST;
        }

        private int misfitAsNumber() {
            return kind == NUMBER ? DONE : misfit();
        }
    }

    private static final class Cell {
        private final int sort;
        private final Slot next = new Slot();
        private int v;
        private Hold latestHold;

        private Cell(int sort) {
            this.sort = sort;
        }

        private int otherMark() {
            return sort >= ODD_SORT ? OTHER_MARK : ELDER_MARK;
        }

        private int timesHeld() {
            int times = 0;
            for (Hold hold = latestHold; hold != null; hold = hold.under) {
                times += hold.times;
            }
            return times;
        }

        private int bodiesOfWeight() {
            return sort == GRAND_SORT ? 3 : sort >= HEAVY_SORT ? 2 : 1;
        }

        private int weight() {
            int plain = v + ELDER_MARK;
            int heavy = sort >= HEAVY_SORT ? 2 * plain : plain;
            return sort == GRAND_SORT ? heavy + OTHER_MARK : heavy;
        }
    }

    private static final class Row {
        private final int lane;
        private final int size;
        // Of these two only the lane's own has cells.
        private final int[] numbers;
        private final Row[] rows;

        private Row(int lane, int size) {
            this.lane = lane;
            this.size = Math.max(size, 0);
            this.numbers = new int[lane == ROWS ? 0 : this.size];
            this.rows = new Row[lane == ROWS ? this.size : 0];
        }

        private boolean lacksCell(int i) {
            return i < 0 || i >= size;
        }

        /** A long's told part, its lowest 32 bits, is all that a NUMBER brings, so longs are kept as ints. */
        private int narrowed(int n) {
            if (lane == BYTES) {
                return (byte) n;
            }
            return lane == SIGNS ? n & 0xFFFF : n;
        }

        private int misfitInCell(Slot value) {
            if (lane != ROWS) {
                return value.misfitAsNumber();
            }
            return value.isNothing() || value.kind == FIRST_ROW ? DONE : THROWN_CAST;
        }

        private void copyFrom(Slot value, int i) {
            if (lane == ROWS) {
                rows[i] = value.row;
            } else {
                numbers[i] = narrowed(value.number);
            }
        }

        private void copyTo(Slot place, int i) {
            if (lane != ROWS) {
                place.becomeNumber(numbers[i]);
            } else if (rows[i] == null) {
                place.becomeNothing();
            } else {
                place.becomeRow(rows[i]);
            }
        }
    }

    /** How often one FRAME holds one CELL's MONITOR. */
    private static final class Hold {
        private Cell cell;
        private Frame frame;
        private int times;
        // The same CELL's hold of an earlier FRAME.
        private Hold under;
        // The same FRAME's next hold, or the next spare one.
        private Hold beside;
    }

    /**
     * The holds of all FRAMES. Only the latest FRAME enters and leaves, and it is over first, so its hold of a
     * CELL is always that CELL's latest one.
     */
    private static final class Monitors {
        private Hold spare;

        private void enter(Frame frame, Cell cell) {
            Hold hold = cell.latestHold;
            if (hold == null || hold.frame != frame) {
                hold = newHold(frame, cell);
            }
            hold.times++;
            frame.holdings++;
        }

        private boolean leave(Frame frame, Cell cell) {
            Hold hold = cell.latestHold;
            if (hold == null || hold.frame != frame || hold.times == 0) {
                return false;
            }
            hold.times--;
            frame.holdings--;
            return true;
        }

        private Hold newHold(Frame frame, Cell cell) {
            Hold hold = spare;
            if (hold == null) {
                hold = new Hold();
            } else {
                spare = hold.beside;
            }
            hold.cell = cell;
            hold.frame = frame;
            hold.times = 0;
            hold.under = cell.latestHold;
            cell.latestHold = hold;
            hold.beside = frame.holds;
            frame.holds = hold;
            return hold;
        }

        private void leaveAll(Frame frame) {
            Hold hold = frame.holds;
            while (hold != null) {
                Hold following = hold.beside;
                if (hold.cell != null) {
                    hold.cell.latestHold = hold.under;
                }
                hold.cell = null;
                hold.frame = null;
                hold.under = null;
                hold.beside = spare;
                spare = hold;
                hold = following;
            }
            frame.holds = null;
            frame.holdings = 0;
        }
    }

    private static final class Member {
        private int wants;
        private int framesBegun;
        private int actCount;
        private final int[] ops = new int[MOST_ACTS];
        private final int[] as = new int[MOST_ACTS];
        private final int[] bs = new int[MOST_ACTS];
        private final int[] cs = new int[MOST_ACTS];
        private int handlerCount;
        private final int[] froms = new int[MOST_HANDLERS];
        private final int[] tos = new int[MOST_HANDLERS];
        private final int[] kinds = new int[MOST_HANDLERS];
        private final int[] ats = new int[MOST_HANDLERS];

        private int addAct(int op, int a, int b, int c) {
            ops[actCount] = op;
            as[actCount] = a;
            bs[actCount] = b;
            cs[actCount] = c;
            actCount++;
            return actCount;
        }

        private int addHandler(int from, int to, int kind, int at) {
            froms[handlerCount] = from;
            tos[handlerCount] = to;
            kinds[handlerCount] = kind;
            ats[handlerCount] = at;
            handlerCount++;
            return handlerCount;
        }

        private boolean handlerHas(int h, int at) {
            return froms[h] <= at && at < tos[h];
        }

        private int firstHandlerOf(int at, int kind) {
            for (int h = 0; h < handlerCount; h++) {
                if (handlerHas(h, at) && (kinds[h] == 0 || kinds[h] == kind)) {
                    return h;
                }
            }
            return NONE;
        }
    }

    private static final class Frame {
        private final Slot[] registers = new Slot[REGISTERS];
        private final Slot given = new Slot();
        private Member code;
        private int number;
        private int at;
        private Hold holds;
        private int holdings;

        private Frame(Member code) {
            this.code = code;
            for (int k = 0; k < REGISTERS; k++) {
                registers[k] = new Slot();
            }
        }

        private void begin(Member newCode, int newNumber, Slot[] givers, int first) {
            code = newCode;
            number = newNumber;
            at = 0;
            given.becomeNothing();
            for (int k = 0; k < REGISTERS; k++) {
                if (k < code.wants && first + k < givers.length) {
                    registers[k].copy(givers[first + k]);
                } else {
                    registers[k].becomeNothing();
                }
            }
        }

        /** The mask keeps a number that names no register here from being an index; its slot is not used then. */
        private Slot named(int name) {
            return registers[name & (REGISTERS - 1)];
        }

        private boolean isBehindItsActs() {
            return at >= code.actCount;
        }

        private void give(Slot value) {
            given.copy(value);
            at = code.actCount;
        }

        private void takeGiven(Slot value) {
            if (!isBehindItsActs()) {
                named(code.as[at]).copy(value);
                at++;
            }
        }
    }

    /** PRICES, what BUDGET and HOUSE have left, and what is counted of a run. */
    private static final class Purse {
        private final int[] prices = {1, 1, 1, 1, 1};
        private final int[] counts = new int[COUNTS];
        private int budget;
        private int house = HOUSE_STEPS;

        private void open(int newBudget) {
            budget = newBudget;
            for (int i = 0; i < COUNTS; i++) {
                counts[i] = 0;
            }
        }

        private boolean takes(long steps) {
            if (steps > budget || steps > house) {
                return false;
            }
            budget -= (int) steps;
            house -= (int) steps;
            counts[0] += (int) steps;
            return true;
        }

        private boolean paysFor(int kind) {
            if (!takes(prices[kind])) {
                return false;
            }
            counts[kind + 1]++;
            return true;
        }

        private boolean paysForRow(int cells) {
            if (!takes(prices[MAKING] + (long) prices[ROW_CELL] * cells)) {
                return false;
            }
            counts[MAKING + 1]++;
            counts[ROW_CELL + 1] += cells;
            return true;
        }
    }

    /** Runs MEMBERS. A run or walk is under way just while there are FRAMES. */
    private static final class Machine {
        private final Member[] members = new Member[MOST_MEMBERS];
        private int memberCount;
        private final Purse purse = new Purse();
        private final Monitors monitors = new Monitors();
        private final int[] plan = new int[PLAN_CELLS];
        private final int[] planAhead = new int[PLAN_CELLS];
        private final Frame[] frames = new Frame[MOST_FRAMES];
        private int depth;
        private final Slot result = new Slot();
        private int thrownNumber;
        private final int[] traced = new int[MOST_TRACED];
        private int tracedCount;
        private int begun;
        private int stopped;
        private int threw;
        private int gave;

        private Machine() {
            for (int i = 0; i < MOST_MEMBERS; i++) {
                members[i] = new Member();
            }
            for (int i = 0; i < MOST_FRAMES; i++) {
                frames[i] = new Frame(members[0]);
            }
        }

        private boolean lacksMember(int number) {
            return number < 0 || number >= memberCount;
        }

        private boolean isWalked() {
            return depth > 0;
        }

        /** The latest FRAME; without any, the first one's place. */
        private Frame top() {
            return frames[Math.max(depth - 1, 0)];
        }

        /** Of the whole WALK, not of its latest FRAME alone: those that wait for a CALL hold theirs still. */
        private int holdings() {
            int all = 0;
            for (int i = 0; i < MOST_FRAMES && i < depth; i++) {
                all += frames[i].holdings;
            }
            return all;
        }

        private int begin(int number, int budget, Slot[] givers) {
            begun++;
            purse.open(budget);
            tracedCount = 0;
            result.becomeNothing();
            System.arraycopy(plan, 0, planAhead, 0, PLAN_CELLS);
            return beginFrame(number, givers, 0) ? endFramesBehindTheirActs() : stop();
        }

        private int doActs(int most) {
            int answer = GOES_ON;
            for (int i = 0; i < most && answer == GOES_ON; i++) {
                answer = doOneAct();
            }
            return answer;
        }

        private int doOneAct() {
            Frame frame = top();
            int outcome = perform(frame);
            if (outcome > DONE) {
                outcome = goToHandler(outcome);
            } else if (outcome == DONE) {
                frame.at++;
            }
            if (outcome == STOPPED) {
                return stop();
            }
            return outcome < THREW ? outcome : endFramesBehindTheirActs();
        }

        private boolean beginFrame(int number, Slot[] givers, int first) {
            if (!purse.paysFor(ENTRY)) {
                return false;
            }
            Member code = members[number];
            frames[depth].begin(code, number, givers, first);
            depth++;
            code.framesBegun++;
            purse.counts[COUNTED_DEPTH] = Math.max(purse.counts[COUNTED_DEPTH], depth);
            keepTrace(TRACED_FRAME + number);
            return true;
        }

        private void endFrame() {
            Frame frame = top();
            purse.counts[COUNTED_LEFT_HELD] += frame.holdings;
            monitors.leaveAll(frame);
            depth--;
        }

        /** A FRAME that is behind its last ACT is over with the ACT that brought it there, and so may its caller be. */
        private int endFramesBehindTheirActs() {
            for (int i = 0; i < MOST_FRAMES && depth > 0 && top().isBehindItsActs(); i++) {
                Slot given = top().given;
                endFrame();
                if (depth > 0) {
                    top().takeGiven(given);
                } else {
                    result.copy(given);
                    gave++;
                }
            }
            return depth > 0 ? GOES_ON : GAVE;
        }

        /** GONE, STOPPED, or, where no FRAME has one, what the run answers then: THREW less the KIND. */
        private int goToHandler(int kind) {
            for (int i = 0; i < MOST_FRAMES && depth > 0; i++) {
                Frame frame = top();
                int h = frame.code.firstHandlerOf(frame.at, kind);
                if (h != NONE) {
                    return beginHandler(frame, h, kind);
                }
                endFrame();
            }
            threw++;
            return THREW - kind;
        }

        private int beginHandler(Frame frame, int h, int kind) {
            if (!purse.paysFor(TO_HANDLER)) {
                return STOPPED;
            }
            keepTrace(kind);
            frame.registers[CAUGHT].becomeNumber(kind == THROWN_OWN ? thrownNumber : kind);
            frame.at = frame.code.ats[h];
            return GONE;
        }

        private int stop() {
            for (int i = 0; i < MOST_FRAMES && depth > 0; i++) {
                endFrame();
            }
            System.arraycopy(planAhead, 0, plan, 0, PLAN_CELLS);
            stopped++;
            return STOPPED;
        }

        private void keepTrace(int entry) {
            if (tracedCount < MOST_TRACED) {
                traced[tracedCount] = entry;
                tracedCount++;
            }
        }

        private int perform(Frame frame) {
            if (frame.isBehindItsActs()) {
                return GONE;
            }
            Member code = frame.code;
            int op = code.ops[frame.at];
            int b = code.bs[frame.at];
            int c = code.cs[frame.at];
            Slot atA = frame.named(code.as[frame.at]);
            Slot atB = frame.named(b);
            Slot atC = frame.named(c);
            switch (op) {
                case SET: atA.becomeNumber(b); return DONE;
                case MOVE: atA.copy(atB); return DONE;
                case SAME: atA.becomeNumber(atB.isSameAs(atC) ? 1 : 0); return DONE;
                case JUMP: return goTo(frame, code.as[frame.at]);
                case BRANCH: return branch(frame, atA, b);
                case ROW: return makeRow(atA, atB, c);
                case CELL: return makeCell(atA, b);
                case PUT: return put(atA, atB, atC);
                case GET: return get(atA, atB, atC);
                case LENGTH: return length(atA, atB);
                case FIELD: return field(atA, atB, c);
                case FILL: return fill(atA, b, atC);
                case IS: atA.becomeNumber(atB.isOf(c) ? 1 : 0); return DONE;
                case CAST: return atA.isNothing() || atA.isOf(b) ? DONE : THROWN_CAST;
                case ENTER: return enter(frame, atA);
                case LEAVE: return leave(frame, atA);
                case THROW: return throwOwn(atA);
                case CALL: return call(frame, b, c);
                case GIVE: frame.give(atA); return GONE;
                case NOTE: return note(atA, atB);
                case ASK: return ask(atA, atB);
                case WEIGH: return weigh(atA, atB);
                default: return reckon(op, atA, atB, atC);
            }
        }

        private static int misfitAsNumbers(Slot first, Slot second) {
            int misfit = first.misfitAsNumber();
            return misfit != DONE ? misfit : second.misfitAsNumber();
        }

        private static int reckon(int op, Slot place, Slot left, Slot right) {
            int misfit = misfitAsNumbers(left, right);
            if (misfit != DONE) {
                return misfit;
            }
            int m = left.number;
            int n = right.number;
            if ((op == DIV || op == REST) && n == 0) {
                return THROWN_ZERO;
            }
            switch (op) {
                case ADD: place.becomeNumber(m + n); break;
                case SUB: place.becomeNumber(m - n); break;
                case MUL: place.becomeNumber(m * n); break;
                case DIV: place.becomeNumber(m / n); break;
                case REST: place.becomeNumber(m % n); break;
                case LESS: place.becomeNumber(m < n ? 1 : 0); break;
                default: break;
            }
            return DONE;
        }

        private int goTo(Frame frame, int target) {
            if (target <= frame.at && !purse.paysFor(BACK_JUMP)) {
                return STOPPED;
            }
            frame.at = target;
            return GONE;
        }

        private int branch(Frame frame, Slot test, int target) {
            int misfit = test.misfitAsNumber();
            if (misfit != DONE) {
                return misfit;
            }
            return test.number != 0 ? goTo(frame, target) : DONE;
        }

        private int makeRow(Slot place, Slot length, int lane) {
            int misfit = length.misfitAsNumber();
            if (misfit != DONE) {
                return misfit;
            }
            int cells = length.number;
            if (cells < 0) {
                return THROWN_SIZE;
            }
            if (!purse.paysForRow(cells)) {
                return STOPPED;
            }
            place.becomeRow(new Row(lane, cells));
            return DONE;
        }

        private int makeCell(Slot place, int sort) {
            if (!purse.paysFor(MAKING)) {
                return STOPPED;
            }
            place.becomeCell(new Cell(sort));
            return DONE;
        }

        private static int put(Slot rowPlace, Slot index, Slot value) {
            Row row = rowPlace.row;
            if (row == null) {
                return rowPlace.misfit();
            }
            int misfit = index.misfitAsNumber();
            if (misfit == DONE) {
                misfit = row.misfitInCell(value);
            }
            if (misfit != DONE) {
                return misfit;
            }
            if (row.lacksCell(index.number)) {
                return THROWN_INDEX;
            }
            row.copyFrom(value, index.number);
            return DONE;
        }

        private static int get(Slot place, Slot rowPlace, Slot index) {
            Row row = rowPlace.row;
            if (row == null) {
                return rowPlace.misfit();
            }
            int misfit = index.misfitAsNumber();
            if (misfit != DONE) {
                return misfit;
            }
            if (row.lacksCell(index.number)) {
                return THROWN_INDEX;
            }
            row.copyTo(place, index.number);
            return DONE;
        }

        private static int length(Slot place, Slot rowPlace) {
            Row row = rowPlace.row;
            if (row == null) {
                return rowPlace.misfit();
            }
            place.becomeNumber(row.size);
            return DONE;
        }

        private static int field(Slot place, Slot cellPlace, int which) {
            Cell cell = cellPlace.cell;
            if (cell == null) {
                return cellPlace.misfit();
            }
            switch (which) {
                case 0: place.becomeNumber(cell.v); break;
                case 1: place.copy(cell.next); break;
                case 2: place.becomeNumber(ELDER_MARK); break;
                default: place.becomeNumber(cell.otherMark()); break;
            }
            return DONE;
        }

        private static int fill(Slot cellPlace, int which, Slot value) {
            Cell cell = cellPlace.cell;
            if (cell == null) {
                return cellPlace.misfit();
            }
            if (which == 1) {
                cell.next.copy(value);
                return DONE;
            }
            int misfit = value.misfitAsNumber();
            if (misfit == DONE) {
                cell.v = value.number;
            }
            return misfit;
        }

        private int enter(Frame frame, Slot cellPlace) {
            Cell cell = cellPlace.cell;
            if (cell == null) {
                return cellPlace.misfit();
            }
            monitors.enter(frame, cell);
            purse.counts[COUNTED_ENTERED]++;
            return DONE;
        }

        private int leave(Frame frame, Slot cellPlace) {
            Cell cell = cellPlace.cell;
            if (cell == null) {
                return cellPlace.misfit();
            }
            return monitors.leave(frame, cell) ? DONE : THROWN_STATE;
        }

        private int throwOwn(Slot thrown) {
            int misfit = thrown.misfitAsNumber();
            if (misfit != DONE) {
                return misfit;
            }
            thrownNumber = thrown.number;
            return THROWN_OWN;
        }

        private int call(Frame caller, int number, int first) {
            if (lacksMember(number)) {
                return THROWN_NONE;
            }
            if (depth >= MOST_FRAMES) {
                return THROWN_DEEP;
            }
            return beginFrame(number, caller.registers, first) ? GONE : STOPPED;
        }

        private int note(Slot value, Slot index) {
            int misfit = misfitAsNumbers(value, index);
            if (misfit != DONE) {
                return misfit;
            }
            if (isOutside(index.number, 0, PLAN_CELLS - 1)) {
                return THROWN_INDEX;
            }
            plan[index.number] = value.number;
            return DONE;
        }

        private int ask(Slot place, Slot index) {
            int misfit = index.misfitAsNumber();
            if (misfit != DONE) {
                return misfit;
            }
            if (isOutside(index.number, 0, PLAN_CELLS - 1)) {
                return THROWN_INDEX;
            }
            place.becomeNumber(plan[index.number]);
            return DONE;
        }

        private int weigh(Slot place, Slot cellPlace) {
            Cell cell = cellPlace.cell;
            if (cell == null) {
                return cellPlace.misfit();
            }
            int bodies = cell.bodiesOfWeight();
            for (int i = 0; i < bodies; i++) {
                if (!purse.paysFor(ENTRY)) {
                    return STOPPED;
                }
            }
            place.becomeNumber(cell.weight());
            return DONE;
        }
    }

    /** Finds out which registers have surely become something ahead of each ACT, on all ways to it. */
    private static final class Verifier {
        // All bits stand for "not come to": what any way brings is kept whole by the first "and".
        private static final int NOT_COME_TO = -1;
        // An ACT's set changes as it is first come to and with each of 8 registers it loses.
        private static final int MOST_PASSES = MOST_ACTS * (REGISTERS + 1) + 1;

        private final int[] made = new int[MOST_ACTS];
        private boolean changed;

        private int leastActThatLooksAtUnset(Machine machine, Member code) {
            for (int at = 0; at < MOST_ACTS; at++) {
                made[at] = NOT_COME_TO;
            }
            comeTo(code, 0, (1 << code.wants) - 1);
            changed = true;
            for (int pass = 0; pass < MOST_PASSES && changed; pass++) {
                changed = false;
                passOver(code);
            }
            for (int at = 0; at < code.actCount; at++) {
                if (made[at] != NOT_COME_TO && (lookedAt(machine, code, at) & ~made[at]) != 0) {
                    return at;
                }
            }
            return NONE;
        }

        private void passOver(Member code) {
            for (int at = 0; at < code.actCount; at++) {
                if (made[at] != NOT_COME_TO) {
                    goOn(code, at);
                    goToHandlers(code, at);
                }
            }
        }

        private void goOn(Member code, int at) {
            int op = code.ops[at];
            int behind = MAKES_A[op] == 0 ? made[at] : made[at] | 1 << code.as[at];
            if (op == JUMP) {
                comeTo(code, code.as[at], behind);
            } else if (op != THROW && op != GIVE) {
                comeTo(code, at + 1, behind);
            }
            if (op == BRANCH) {
                comeTo(code, code.bs[at], behind);
            }
        }

        /** What an ACT makes is not there yet as it throws. */
        private void goToHandlers(Member code, int at) {
            for (int h = 0; h < code.handlerCount; h++) {
                if (code.handlerHas(h, at)) {
                    comeTo(code, code.ats[h], made[at] | 1 << CAUGHT);
                }
            }
        }

        private void comeTo(Member code, int at, int brought) {
            if (at >= code.actCount) {
                return;
            }
            int before = made[at];
            made[at] = before & brought;
            if (made[at] != before) {
                changed = true;
            }
        }

        private static int lookedAt(Machine machine, Member code, int at) {
            int op = code.ops[at];
            if (op == CALL) {
                int called = code.bs[at];
                return machine.lacksMember(called) ? 0 : passedOn(code.cs[at], machine.members[called].wants);
            }
            int bits = 0;
            bits |= (LOOKS_AT[op] & 1) != 0 ? 1 << code.as[at] : 0;
            bits |= (LOOKS_AT[op] & 2) != 0 ? 1 << code.bs[at] : 0;
            bits |= (LOOKS_AT[op] & 4) != 0 ? 1 << code.cs[at] : 0;
            return bits;
        }

        private static int passedOn(int first, int wants) {
            int all = (1 << REGISTERS) - 1;
            return ((1 << wants) - 1) << first & all;
        }
    }
}
