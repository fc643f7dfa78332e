/** A pendant of a robot's arm in a plane. What each call promises stands in ../shared/DOC.md. */
public final class ArmPendant {

    public static final int NONE = -1, BAD = -2, NO = -3, FULL = -4;

    private static final int BAD_STATE = -2000000;
    private static final int NO_STATE = -1000000;

    private static final int JOINTS = 4;
    private static final int BOXES = 4;
    private static final int POSES = 16;
    private static final int KEPT = 4;
    private static final int SIGNALS = 8;
    private static final int MOST_LINES = 60;
    private static final int MOST_SCRIPTS = 40;
    private static final int MOST_PUT_BY = 12;
    private static final int MOST_LINES_IN_A_TICK = 100;

    private static final int FARTHEST_STATE = 1000000;
    private static final int FARTHEST_BOX = 10000;
    private static final int TURN = 1000000;
    private static final int QUARTER = 250000;
    private static final int EIGHTH = 125000;

    private static final int SLIDING = 1;

    private static final int NOT_BEGUN = 0;
    private static final int GOING = 1;
    private static final int ENDED = 2;
    private static final int STOPPED = 3;

    private static final int GO = 0;
    private static final int WAIT = 1;
    private static final int OUT = 2;
    private static final int IF_INPUT = 3;
    private static final int JUMP = 4;
    private static final int CALL = 5;
    private static final int RETURN = 6;
    private static final int ADD = 7;
    private static final int IF_BELOW = 8;
    private static final int SEARCH = 9;
    private static final int END = 10;
    private static final int ON_ERROR = 11;

    private static final int NO_SUCH_POSE = 1;
    private static final int IN_A_BOX = 2;
    private static final int NO_SUCH_LINE = 3;
    private static final int TOO_MANY_LINES = 4;
    private static final int TOO_MANY_PUT_BY = 5;
    private static final int BY_HAND = 9;

    private final Cell cell = new Cell();
    private final Moment now = new Moment();
    private final Moment[] kept = new Moment[KEPT];
    private final boolean[] isKept = new boolean[KEPT];
    private final Moment replayOfKept = new Moment();
    private final Moment replayOfNow = new Moment();
    private final Motion planned = new Motion();
    private final Tip tip = new Tip();

    public ArmPendant() {
        for (int k = 0; k < KEPT; k++) {
            kept[k] = new Moment();
        }
    }

    // ---- the arm

    public int joint(int j, int kind, int length, int pace, int rise) {
        if (!isJoint(j) || !isWithin(kind, 0, SLIDING) || !isWithin(length, 0, 1000)
                || !isWithin(pace, 1, 100000) || !isWithin(rise, 1, 100000)) {
            return BAD;
        }
        if (isGoing()) {
            return NO;
        }
        Joint told = cell.joints[j];
        told.kind = kind;
        told.length = length;
        told.pace = pace;
        told.rise = rise;
        return 1;
    }

    public int limits(int j, int low, int high) {
        if (!isJoint(j) || !isWithin(low, -FARTHEST_STATE, FARTHEST_STATE)
                || !isWithin(high, -FARTHEST_STATE, FARTHEST_STATE) || low > high) {
            return BAD;
        }
        if (isGoing() || !isWithin(now.states[j], low, high)) {
            return NO;
        }
        cell.joints[j].low = low;
        cell.joints[j].high = high;
        return 1;
    }

    public int jog(int j, int state) {
        if (!isJoint(j) || !cell.joints[j].allows(state)) {
            return BAD_STATE;
        }
        if (isGoing()) {
            return NO_STATE;
        }
        int was = now.states[j];
        now.states[j] = state;
        return was;
    }

    public int state(int j) {
        return isJoint(j) ? now.states[j] : BAD_STATE;
    }

    public long tip(int what) {
        if (!isWithin(what, 0, 1)) {
            return -1L;
        }
        tip.follow(cell.joints, now.states);
        return bitsOf(what == 0 ? tip.x : tip.y);
    }

    public long sine(int u) {
        return bitsOf(Tip.sineOf(u));
    }

    public int box(int k, int x0, int y0, int x1, int y1) {
        if (!isWithin(k, 0, BOXES - 1) || !isWithin(x0, -FARTHEST_BOX, FARTHEST_BOX)
                || !isWithin(y0, -FARTHEST_BOX, FARTHEST_BOX) || !isWithin(x1, -FARTHEST_BOX, FARTHEST_BOX)
                || !isWithin(y1, -FARTHEST_BOX, FARTHEST_BOX) || x0 >= x1 || y0 >= y1) {
            return BAD;
        }
        tip.follow(cell.joints, now.states);
        if (isGoing() || tip.isIn(x0, y0, x1, y1)) {
            return NO;
        }
        cell.boxes[k].tell(x0, y0, x1, y1);
        return 1;
    }

    public int unbox(int k) {
        if (!isWithin(k, 0, BOXES - 1)) {
            return BAD;
        }
        if (isGoing() || !cell.boxes[k].told) {
            return NO;
        }
        cell.boxes[k].told = false;
        return 1;
    }

    // ---- poses and motions

    public int teach(int k) {
        if (!isPose(k)) {
            return BAD;
        }
        Pose pose = cell.poses[k];
        pose.taught = true;
        System.arraycopy(now.states, 0, pose.states, 0, JOINTS);
        return 1;
    }

    public int pose(int k, int j) {
        if (!isPose(k) || !isJoint(j) || !cell.poses[k].taught) {
            return BAD_STATE;
        }
        return cell.poses[k].states[j];
    }

    public int plan(int k, int share) {
        if (!isPose(k) || !isShare(share)) {
            return BAD;
        }
        if (!cell.poses[k].taught) {
            return NO;
        }
        planned.aim(cell.joints, now.states, cell.poses[k].states, share);
        return planned.ticks;
    }

    public int along(int k, int share, int t, int j) {
        if (!isPose(k) || !isShare(share) || t < 0 || !isJoint(j) || !cell.poses[k].taught) {
            return BAD_STATE;
        }
        planned.aim(cell.joints, now.states, cell.poses[k].states, share);
        if (t > planned.ticks) {
            return BAD_STATE;
        }
        return planned.stateAt(j, planned.goneBehind(t));
    }

    // ---- programs

    public int line(int op, int a, int b) {
        if (!isLine(op, a, b)) {
            return BAD;
        }
        if (isGoing()) {
            return NO;
        }
        if (cell.program.count >= MOST_LINES) {
            return FULL;
        }
        return cell.program.add(op, a, b);
    }

    public int clear() {
        if (isGoing()) {
            return NO;
        }
        int were = cell.program.count;
        cell.program.count = 0;
        return were;
    }

    public int script(int t, int i, boolean on) {
        if (!isWithin(t, 1, 100000) || !isSignal(i)) {
            return BAD;
        }
        if (cell.scripts.count >= MOST_SCRIPTS) {
            return FULL;
        }
        return cell.scripts.add(t, i, on);
    }

    public int input(int i, boolean on) {
        if (!isSignal(i)) {
            return BAD;
        }
        now.inputs[i] = on;
        return 1;
    }

    public int run() {
        if (isGoing()) {
            return NO;
        }
        now.begin();
        return 1;
    }

    public int tick(int n) {
        if (!isWithin(n, 1, 200)) {
            return BAD;
        }
        for (int i = 0; i < n && isGoing(); i++) {
            cell.oneTick(now);
        }
        return now.stands;
    }

    public int stop() {
        if (!isGoing()) {
            return NO;
        }
        now.stopBy(BY_HAND);
        return 1;
    }

    public int about(int what) {
        switch (what) {
            case 0: return now.stands;
            case 1: return now.time;
            case 2: return now.line;
            case 3: return now.error;
            case 4: return now.putByCount;
            case 5: return now.linesDone;
            case 6: return now.left;
            case 7: return now.goes ? 1 : 0;
            case 8: return now.errorLine;
            default: return BAD;
        }
    }

    public int at(int what, int i) {
        if (!isSignal(i)) {
            return BAD_STATE;
        }
        switch (what) {
            case 0: return now.outs[i] ? 1 : 0;
            case 1: return now.registers[i];
            case 2: return now.inputs[i] ? 1 : 0;
            default: return BAD_STATE;
        }
    }

    public long travel(int j) {
        return isJoint(j) ? now.travelled[j] : -1L;
    }

    // ---- states kept

    public int keep(int k) {
        if (!isPlace(k)) {
            return BAD;
        }
        kept[k].become(now);
        isKept[k] = true;
        return 1;
    }

    public int back(int k) {
        if (!isPlace(k)) {
            return BAD;
        }
        if (!canGoBackTo(k)) {
            return NO;
        }
        now.become(kept[k]);
        return 1;
    }

    public int replay(int k, int n) {
        if (!isPlace(k) || !isWithin(n, 1, 100)) {
            return BAD;
        }
        if (!canGoBackTo(k)) {
            return NO;
        }
        replayOfKept.become(kept[k]);
        replayOfNow.become(now);
        for (int t = 0; t <= n; t++) {
            if (t > 0) {
                cell.oneTick(replayOfKept);
                cell.oneTick(replayOfNow);
            }
            if (replayOfKept.differsFrom(replayOfNow)) {
                return t;
            }
        }
        return NONE;
    }

    public int count(int what) {
        switch (what) {
            case 0: return cell.program.count;
            case 1: return cell.scripts.count;
            case 2: return cell.boxesTold();
            case 3: return cell.posesTaught();
            default: return BAD;
        }
    }

    public long digest() {
        long h = 113L;
        for (int what = 0; what <= 3; what++) {
            h = 31L * h + count(what);
        }
        for (int j = 0; j < JOINTS; j++) {
            h = 31L * h + now.states[j];
        }
        h = 31L * h + tip(0);
        h = 31L * h + tip(1);
        for (int what = 0; what <= 8; what++) {
            h = 31L * h + about(what);
        }
        for (int what = 0; what <= 2; what++) {
            for (int i = 0; i < SIGNALS; i++) {
                h = 31L * h + at(what, i);
            }
        }
        for (int j = 0; j < JOINTS; j++) {
            h = 31L * h + now.travelled[j];
        }
        return h;
    }

    // ---- what the calls look at first

    private static boolean isWithin(int value, int low, int high) {
        return low <= value && value <= high;
    }

    private static boolean isJoint(int j) {
        return isWithin(j, 0, JOINTS - 1);
    }

    private static boolean isPose(int k) {
        return isWithin(k, 0, POSES - 1);
    }

    private static boolean isShare(int share) {
        return isWithin(share, 1, 100);
    }

    private static boolean isSignal(int i) {
        return isWithin(i, 0, SIGNALS - 1);
    }

    private static boolean isPlace(int k) {
        return isWithin(k, 0, KEPT - 1);
    }

    private static boolean isLine(int op, int a, int b) {
        switch (op) {
            case GO:
                return isPose(a) && isShare(b);
            case WAIT:
                return isWithin(a, 0, 1000);
            case OUT:
            case IF_INPUT:
                return isSignal(a) && isWithin(b, 0, 1);
            case JUMP:
            case CALL:
            case ON_ERROR:
                return isWithin(a, 0, MOST_LINES - 1);
            case ADD:
            case IF_BELOW:
            case SEARCH:
                return isSignal(a);
            case RETURN:
            case END:
                return true;
            default:
                return false;
        }
    }

    private boolean isGoing() {
        return now.stands == GOING;
    }

    private boolean canGoBackTo(int k) {
        return isKept[k] && cell.allows(kept[k].states);
    }

    /**
     * The bits of a double by arithmetic, as the language leaves no call for them. Doubling is exact here:
     * the tip and the sines stay far below 2 to the 53rd and far above the least doubles, and they are never
     * the zero below zero, as they are sums that begin at 0.0.
     */
    private static long bitsOf(double value) {
        if (value == 0.0) {
            return 0L;
        }
        double size = value < 0.0 ? 0.0 - value : value;
        long exponent = 1075L;
        for (int i = 0; i < 1100 && size < 4503599627370496.0; i++) {
            size = size * 2.0;
            exponent--;
        }
        long bits = (exponent << 52) | ((long) size & 0xFFFFFFFFFFFFFL);
        return value < 0.0 ? bits | Long.MIN_VALUE : bits;
    }

    // ---- the classes inside

    /** How a joint is built and driven; its state belongs to a Moment. */
    private static final class Joint {
        int kind = 0;
        int length = 100;
        int low = -500000;
        int high = 500000;
        int pace = 10000;
        int rise = 1000;

        boolean allows(int state) {
            return low <= state && state <= high;
        }
    }

    /** Where the arm ends. */
    private static final class Tip {
        double x;
        double y;

        void follow(Joint[] joints, int[] states) {
            x = 0.0;
            y = 0.0;
            int u = 0;
            for (int j = 0; j < JOINTS; j++) {
                double l = joints[j].length;
                if (joints[j].kind == SLIDING) {
                    l = l + states[j] / 1000.0;
                } else {
                    u = u + states[j];
                }
                x = x + l * sineOf(u + QUARTER);
                y = y + l * sineOf(u);
            }
        }

        boolean isIn(int x0, int y0, int x1, int y1) {
            return x0 <= x && x <= x1 && y0 <= y && y <= y1;
        }

        /** The document's own series, act by act: another order of acts would round to other bits. */
        static double sineOf(int u) {
            int r = u % TURN;
            if (r < 0) {
                r = r + TURN;
            }
            int q = r / QUARTER;
            int p = r % QUARTER;
            if (q % 2 == 1) {
                p = QUARTER - p;
            }
            double s;
            if (p <= EIGHTH) {
                double a = p * 6.283185307179586E-6;
                double b = a * a;
                s = a * (1.0 + b * (-0.16666666666666666 + b * (0.008333333333333333
                        + b * (-1.984126984126984E-4 + b * (2.7557319223985893E-6
                        + b * -2.505210838544172E-8)))));
            } else {
                double a = (QUARTER - p) * 6.283185307179586E-6;
                double b = a * a;
                s = 1.0 + b * (-0.5 + b * (0.041666666666666664 + b * (-0.001388888888888889
                        + b * (2.48015873015873E-5 + b * (-2.7557319223985888E-7
                        + b * 2.08767569878681E-9)))));
            }
            return q > 1 ? 0.0 - s : s;
        }
    }

    /** A place where the tip must not be, while it is told. */
    private static final class Box {
        boolean told;
        int x0;
        int y0;
        int x1;
        int y1;

        void tell(int left, int bottom, int right, int top) {
            told = true;
            x0 = left;
            y0 = bottom;
            x1 = right;
            y1 = top;
        }

        boolean holds(Tip tip) {
            return told && tip.isIn(x0, y0, x1, y1);
        }
    }

    /** A row of states. */
    private static final class Pose {
        boolean taught;
        final int[] states = new int[JOINTS];
    }

    /** A way from states to states, with what its leader needs to time it. */
    private static final class Motion {
        final int[] from = new int[JOINTS];
        final int[] by = new int[JOINTS];
        int ticks;
        int way;
        int pace;
        int rise;

        void aim(Joint[] joints, int[] start, int[] goal, int share) {
            ticks = 0;
            way = 0;
            pace = 1;
            rise = 1;
            for (int j = 0; j < JOINTS; j++) {
                from[j] = start[j];
                by[j] = goal[j] - start[j];
                int ownWay = Math.abs(by[j]);
                int ownPace = Math.max(1, joints[j].pace * share / 100);
                int ownTicks = leastTicks(ownWay, ownPace, joints[j].rise);
                if (ownTicks > ticks) {
                    ticks = ownTicks;
                    way = ownWay;
                    pace = ownPace;
                    rise = joints[j].rise;
                }
            }
        }

        int stateAt(int j, long gone) {
            return way == 0 ? from[j] : from[j] + (int) (by[j] * gone / way);
        }

        /** How far the leader is behind t ticks, 0 to ticks. */
        long goneBehind(int t) {
            int rising = ticks - ticks / 2;
            long gone = t <= rising
                    ? climb(t, pace, rise)
                    : climb(ticks / 2, pace, rise) + climb(rising, pace, rise) - climb(ticks - t, pace, rise);
            return gone < way ? gone : way;
        }

        void become(Motion other) {
            System.arraycopy(other.from, 0, from, 0, JOINTS);
            System.arraycopy(other.by, 0, by, 0, JOINTS);
            ticks = other.ticks;
            way = other.way;
            pace = other.pace;
            rise = other.rise;
        }

        /** Each tick goes 1 at least, so that the way itself is a bound of its ticks. */
        private static int leastTicks(int way, int pace, int rise) {
            int low = 0;
            int high = way;
            for (int i = 0; i < 32 && low < high; i++) {
                int middle = low + (high - low) / 2;
                int half = middle / 2;
                if (climb(half, pace, rise) + climb(middle - half, pace, rise) >= way) {
                    high = middle;
                } else {
                    low = middle + 1;
                }
            }
            return low;
        }

        /** The sum of the least of rise times k and pace, for k from 1 to t: a rise, or a fall backwards. */
        private static long climb(int t, int pace, int rise) {
            int full = rise > 0 ? pace / rise : 0;
            if (t <= full) {
                return (long) rise * t * (t + 1) / 2;
            }
            return (long) rise * full * (full + 1) / 2 + (long) pace * (t - full);
        }
    }

    /** The lines, in rows that are made once. */
    private static final class Program {
        final int[] ops = new int[MOST_LINES];
        final int[] as = new int[MOST_LINES];
        final int[] bs = new int[MOST_LINES];
        int count;

        int add(int op, int a, int b) {
            ops[count] = op;
            as[count] = a;
            bs[count] = b;
            return count++;
        }
    }

    /** What inputs become at ticks of runs. */
    private static final class Scripts {
        final int[] times = new int[MOST_SCRIPTS];
        final int[] signals = new int[MOST_SCRIPTS];
        final boolean[] ons = new boolean[MOST_SCRIPTS];
        int count;

        int add(int time, int signal, boolean on) {
            times[count] = time;
            signals[count] = signal;
            ons[count] = on;
            count++;
            return count;
        }

        void setInputs(int time, boolean[] inputs) {
            for (int i = 0; i < count; i++) {
                if (times[i] == time) {
                    inputs[signals[i]] = ons[i];
                }
            }
        }
    }

    /** All that ticks change, and so all that is kept. */
    private static final class Moment {
        final int[] states = new int[JOINTS];
        final long[] travelled = new long[JOINTS];
        final boolean[] inputs = new boolean[SIGNALS];
        final boolean[] outs = new boolean[SIGNALS];
        final int[] registers = new int[SIGNALS];
        final int[] putBy = new int[MOST_PUT_BY];
        final Motion motion = new Motion();
        int putByCount;
        int stands = NOT_BEGUN;
        int time;
        int line;
        int error;
        int linesDone;
        int left;
        boolean goes;
        int errorLine = NONE;
        int searchOfNextGo = NONE;
        int searchOfThisGo = NONE;

        void begin() {
            for (int i = 0; i < SIGNALS; i++) {
                outs[i] = false;
                registers[i] = 0;
            }
            stands = GOING;
            time = 0;
            line = 0;
            error = 0;
            putByCount = 0;
            linesDone = 0;
            errorLine = NONE;
            searchOfNextGo = NONE;
        }

        void dropWhatIsUnderWay() {
            goes = false;
            left = 0;
        }

        void end(int lastLine) {
            stands = ENDED;
            line = lastLine;
        }

        void stopBy(int reason) {
            stands = STOPPED;
            error = reason;
            dropWhatIsUnderWay();
        }

        void spendTick() {
            left--;
            if (left <= 0) {
                passLine();
            }
        }

        void passLine() {
            dropWhatIsUnderWay();
            line++;
        }

        void become(Moment other) {
            System.arraycopy(other.states, 0, states, 0, JOINTS);
            System.arraycopy(other.travelled, 0, travelled, 0, JOINTS);
            System.arraycopy(other.registers, 0, registers, 0, SIGNALS);
            System.arraycopy(other.putBy, 0, putBy, 0, MOST_PUT_BY);
            for (int i = 0; i < SIGNALS; i++) {
                inputs[i] = other.inputs[i];
                outs[i] = other.outs[i];
            }
            motion.become(other.motion);
            putByCount = other.putByCount;
            stands = other.stands;
            time = other.time;
            line = other.line;
            error = other.error;
            linesDone = other.linesDone;
            left = other.left;
            goes = other.goes;
            errorLine = other.errorLine;
            searchOfNextGo = other.searchOfNextGo;
            searchOfThisGo = other.searchOfThisGo;
        }

        boolean differsFrom(Moment other) {
            for (int j = 0; j < JOINTS; j++) {
                if (states[j] != other.states[j]) {
                    return true;
                }
            }
            for (int i = 0; i < SIGNALS; i++) {
                if (outs[i] != other.outs[i] || registers[i] != other.registers[i]) {
                    return true;
                }
            }
            return false;
        }
    }

    /** What stays as it is while ticks go, and how a tick changes a Moment. */
    private static final class Cell {
        final Joint[] joints = new Joint[JOINTS];
        final Box[] boxes = new Box[BOXES];
        final Pose[] poses = new Pose[POSES];
        final Program program = new Program();
        final Scripts scripts = new Scripts();
        final Tip tried = new Tip();
        final int[] triedStates = new int[JOINTS];

        Cell() {
            for (int j = 0; j < JOINTS; j++) {
                joints[j] = new Joint();
            }
            for (int k = 0; k < BOXES; k++) {
                boxes[k] = new Box();
            }
            for (int k = 0; k < POSES; k++) {
                poses[k] = new Pose();
            }
        }

        int boxesTold() {
            int told = 0;
            for (int k = 0; k < BOXES; k++) {
                told += boxes[k].told ? 1 : 0;
            }
            return told;
        }

        int posesTaught() {
            int taught = 0;
            for (int k = 0; k < POSES; k++) {
                taught += poses[k].taught ? 1 : 0;
            }
            return taught;
        }

        boolean allows(int[] states) {
            for (int j = 0; j < JOINTS; j++) {
                if (!joints[j].allows(states[j])) {
                    return false;
                }
            }
            return true;
        }

        /** One more line than a tick may do is begun, so that it errs. A moment without a run stays as it is. */
        void oneTick(Moment m) {
            if (m.stands != GOING) {
                return;
            }
            m.time++;
            scripts.setInputs(m.time, m.inputs);
            boolean spent = carryOn(m);
            for (int done = 0; done <= MOST_LINES_IN_A_TICK && !spent; done++) {
                if (m.line < 0 || m.line >= program.count) {
                    m.end(program.count);
                    spent = true;
                } else if (done == MOST_LINES_IN_A_TICK) {
                    spent = err(m, TOO_MANY_LINES);
                } else {
                    spent = doLine(m, program.ops[m.line], program.as[m.line], program.bs[m.line]) || carryOn(m);
                }
            }
        }

        /** Whether what is under way, if anything, spends the tick; all that follow tell the same. */
        private boolean carryOn(Moment m) {
            if (m.left <= 0) {
                return false;
            }
            if (m.goes) {
                return carryOnGo(m);
            }
            m.spendTick();
            return true;
        }

        private boolean carryOnGo(Moment m) {
            if (m.searchOfThisGo != NONE && m.inputs[m.searchOfThisGo]) {
                m.passLine();
                return false;
            }
            long gone = m.motion.goneBehind(m.motion.ticks - m.left + 1);
            for (int j = 0; j < JOINTS; j++) {
                triedStates[j] = m.motion.stateAt(j, gone);
            }
            tried.follow(joints, triedStates);
            for (int k = 0; k < BOXES; k++) {
                if (boxes[k].holds(tried)) {
                    return err(m, IN_A_BOX);
                }
            }
            for (int j = 0; j < JOINTS; j++) {
                m.travelled[j] += Math.abs(triedStates[j] - m.states[j]);
                m.states[j] = triedStates[j];
            }
            m.spendTick();
            return true;
        }

        private boolean doLine(Moment m, int op, int a, int b) {
            m.linesDone++;
            switch (op) {
                case GO:
                    return beginGo(m, poses[a], b);
                case WAIT:
                    m.left = a;
                    if (a > 0) {
                        return false;
                    }
                    break;
                case OUT:
                    m.outs[a] = b == 1;
                    break;
                case IF_INPUT:
                    m.line += m.inputs[a] == (b == 1) ? 1 : 0;
                    break;
                case JUMP:
                    return jump(m, a);
                case CALL:
                    return call(m, a);
                case RETURN:
                    return comeBack(m);
                case ADD:
                    m.registers[a] += b;
                    break;
                case IF_BELOW:
                    m.line += m.registers[a] < b ? 1 : 0;
                    break;
                case SEARCH:
                    m.searchOfNextGo = a;
                    break;
                case END:
                    m.end(m.line);
                    return true;
                default:
                    m.errorLine = a;
                    break;
            }
            m.passLine();
            return false;
        }

        private boolean beginGo(Moment m, Pose pose, int share) {
            m.searchOfThisGo = m.searchOfNextGo;
            m.searchOfNextGo = NONE;
            if (!pose.taught || !allows(pose.states)) {
                return err(m, NO_SUCH_POSE);
            }
            m.motion.aim(joints, m.states, pose.states, share);
            if (m.motion.ticks == 0) {
                m.passLine();
                return false;
            }
            m.goes = true;
            m.left = m.motion.ticks;
            return false;
        }

        private boolean jump(Moment m, int to) {
            if (to >= program.count) {
                return err(m, NO_SUCH_LINE);
            }
            m.line = to;
            return false;
        }

        private boolean call(Moment m, int to) {
            if (to >= program.count) {
                return err(m, NO_SUCH_LINE);
            }
            if (m.putByCount >= MOST_PUT_BY) {
                return err(m, TOO_MANY_PUT_BY);
            }
            m.putBy[m.putByCount] = m.line + 1;
            m.putByCount++;
            m.line = to;
            return false;
        }

        private boolean comeBack(Moment m) {
            if (m.putByCount <= 0) {
                m.end(m.line);
                return true;
            }
            m.putByCount--;
            m.line = m.putBy[m.putByCount];
            return false;
        }

        /** An error spends the tick: the line for errors is done in the next one. */
        private boolean err(Moment m, int error) {
            if (m.errorLine == NONE) {
                m.stopBy(error);
            } else if (m.errorLine >= program.count) {
                m.stopBy(NO_SUCH_LINE);
            } else {
                m.dropWhatIsUnderWay();
                m.error = error;
                m.line = m.errorLine;
                m.errorLine = NONE;
                m.putByCount = 0;
            }
            return true;
        }
    }
}
