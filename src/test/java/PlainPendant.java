import java.util.ArrayList;
import java.util.Arrays;
import java.util.List;

/**
 * The document once more, as slowly and as literally as it can be told, with the whole Java library:
 * what ArmPendant works out by short ways is added up here tick by tick.
 */
final class PlainPendant {
    static final int NONE = -1;
    static final int BAD = -2;
    static final int NO = -3;
    static final int FULL = -4;
    static final int BAD_STATE = -2000000;

    /** A go under way: every row of states that it will pass, worked out as it begins. */
    static final class Going {
        final int[][] rows;
        final int search;
        int done;

        Going(int[][] rows, int search) {
            this.rows = rows;
            this.search = search;
        }
    }

    /** All that is kept. */
    static final class Now {
        int[] states = new int[4];
        long[] travel = new long[4];
        boolean[] inputs = new boolean[8];
        boolean[] outs = new boolean[8];
        int[] registers = new int[8];
        List<Integer> putBy = new ArrayList<>();
        int stands;
        int time;
        int line;
        int error;
        int did;
        int onError = NONE;
        int search = NONE;
        int wait;
        Going go;

        Now copy() {
            Now c = new Now();
            c.states = states.clone();
            c.travel = travel.clone();
            c.inputs = inputs.clone();
            c.outs = outs.clone();
            c.registers = registers.clone();
            c.putBy = new ArrayList<>(putBy);
            c.stands = stands;
            c.time = time;
            c.line = line;
            c.error = error;
            c.did = did;
            c.onError = onError;
            c.search = search;
            c.wait = wait;
            if (go != null) {
                c.go = new Going(go.rows, go.search);
                c.go.done = go.done;
            }
            return c;
        }
    }

    final int[] kind = new int[4];
    final int[] length = {100, 100, 100, 100};
    final int[] low = {-500000, -500000, -500000, -500000};
    final int[] high = {500000, 500000, 500000, 500000};
    final int[] pace = {10000, 10000, 10000, 10000};
    final int[] rise = {1000, 1000, 1000, 1000};
    final int[][] boxes = new int[4][];
    final int[][] poses = new int[16][];
    final List<int[]> lines = new ArrayList<>();
    final List<int[]> scripts = new ArrayList<>();
    final Now[] kept = new Now[4];
    Now now = new Now();

    private static boolean in(int v, int from, int to) {
        return v >= from && v <= to;
    }

    private boolean goes() {
        return now.stands == 1;
    }

    int joint(int j, int k, int l, int p, int r) {
        if (!in(j, 0, 3) || !in(k, 0, 1) || !in(l, 0, 1000) || !in(p, 1, 100000) || !in(r, 1, 100000)) {
            return BAD;
        }
        if (goes()) {
            return NO;
        }
        kind[j] = k;
        length[j] = l;
        pace[j] = p;
        rise[j] = r;
        return 1;
    }

    int limits(int j, int lo, int hi) {
        if (!in(j, 0, 3) || !in(lo, -1000000, 1000000) || !in(hi, -1000000, 1000000) || lo > hi) {
            return BAD;
        }
        if (goes() || !in(now.states[j], lo, hi)) {
            return NO;
        }
        low[j] = lo;
        high[j] = hi;
        return 1;
    }

    int jog(int j, int state) {
        if (!in(j, 0, 3) || !in(state, low[j], high[j])) {
            return BAD_STATE;
        }
        if (goes()) {
            return -1000000;
        }
        int was = now.states[j];
        now.states[j] = state;
        return was;
    }

    int state(int j) {
        return in(j, 0, 3) ? now.states[j] : BAD_STATE;
    }

    double[] tipOf(int[] states) {
        double x = 0.0;
        double y = 0.0;
        int u = 0;
        for (int j = 0; j < 4; j++) {
            double l = length[j];
            if (kind[j] == 0) {
                u += states[j];
            } else {
                l = length[j] + (states[j] / 1000.0);
            }
            x = x + l * sine(u + 250000);
            y = y + l * sine(u);
        }
        return new double[] {x, y};
    }

    static double sine(int u) {
        int r = Math.floorMod(u, 1000000);
        int q = r / 250000;
        int p = r - q * 250000;
        p = q == 1 || q == 3 ? 250000 - p : p;
        double s;
        if (p <= 125000) {
            double a = p * 6.283185307179586E-6;
            double b = a * a;
            double t = 2.7557319223985893E-6 + b * -2.505210838544172E-8;
            t = -1.984126984126984E-4 + b * t;
            t = 0.008333333333333333 + b * t;
            t = -0.16666666666666666 + b * t;
            t = 1.0 + b * t;
            s = a * t;
        } else {
            double a = (250000 - p) * 6.283185307179586E-6;
            double b = a * a;
            double t = -2.7557319223985888E-7 + b * 2.08767569878681E-9;
            t = 2.48015873015873E-5 + b * t;
            t = -0.001388888888888889 + b * t;
            t = 0.041666666666666664 + b * t;
            t = -0.5 + b * t;
            s = 1.0 + b * t;
        }
        return q > 1 ? 0.0 - s : s;
    }

    long tip(int what) {
        return in(what, 0, 1) ? Double.doubleToRawLongBits(tipOf(now.states)[what]) : -1;
    }

    static boolean boxHolds(int[] box, double[] tip) {
        return box[0] <= tip[0] && tip[0] <= box[2] && box[1] <= tip[1] && tip[1] <= box[3];
    }

    int box(int k, int x0, int y0, int x1, int y1) {
        for (int c : new int[] {x0, y0, x1, y1}) {
            if (!in(c, -10000, 10000)) {
                return BAD;
            }
        }
        if (!in(k, 0, 3) || x0 >= x1 || y0 >= y1) {
            return BAD;
        }
        int[] told = {x0, y0, x1, y1};
        if (goes() || boxHolds(told, tipOf(now.states))) {
            return NO;
        }
        boxes[k] = told;
        return 1;
    }

    int unbox(int k) {
        if (!in(k, 0, 3)) {
            return BAD;
        }
        if (goes() || boxes[k] == null) {
            return NO;
        }
        boxes[k] = null;
        return 1;
    }

    int teach(int k) {
        if (!in(k, 0, 15)) {
            return BAD;
        }
        poses[k] = now.states.clone();
        return 1;
    }

    int pose(int k, int j) {
        return in(k, 0, 15) && in(j, 0, 3) && poses[k] != null ? poses[k][j] : BAD_STATE;
    }

    static long step(long k, long n, long v, long a) {
        return Math.min(Math.min(a * k, v), a * (n + 1 - k));
    }

    static long gone(long t, long n, long v, long a) {
        long sum = 0;
        for (long k = 1; k <= t; k++) {
            sum += step(k, n, v, a);
        }
        return sum;
    }

    static int leastTicks(long w, long v, long a) {
        int n = 0;
        while (gone(n, n, v, a) < w) {
            n++;
        }
        return n;
    }

    /** The states behind 0, 1, .. ticks, to the last. */
    int[][] motion(int[] from, int[] to, int share) {
        int most = 0;
        int leader = 0;
        for (int j = 0; j < 4; j++) {
            int n = leastTicks(Math.abs(to[j] - from[j]), Math.max(1, pace[j] * share / 100), rise[j]);
            if (n > most) {
                most = n;
                leader = j;
            }
        }
        int[][] rows = new int[most + 1][4];
        long w = Math.abs(to[leader] - from[leader]);
        long v = Math.max(1, pace[leader] * share / 100);
        long s = 0;
        rows[0] = from.clone();
        for (int t = 1; t <= most; t++) {
            s += step(t, most, v, rise[leader]);
            for (int j = 0; j < 4; j++) {
                rows[t][j] = (int) (from[j] + (to[j] - from[j]) * Math.min(s, w) / w);
            }
        }
        return rows;
    }

    int plan(int k, int share) {
        if (!in(k, 0, 15) || !in(share, 1, 100)) {
            return BAD;
        }
        return poses[k] == null ? NO : motion(now.states, poses[k], share).length - 1;
    }

    int along(int k, int share, int t, int j) {
        if (!in(k, 0, 15) || !in(share, 1, 100) || !in(j, 0, 3) || t < 0 || poses[k] == null) {
            return BAD_STATE;
        }
        int[][] rows = motion(now.states, poses[k], share);
        return t < rows.length ? rows[t][j] : BAD_STATE;
    }

    static boolean lineIsAsTold(int op, int a, int b) {
        if (op == 0) {
            return in(a, 0, 15) && in(b, 1, 100);
        }
        if (op == 1) {
            return in(a, 0, 1000);
        }
        if (op == 2 || op == 3) {
            return in(a, 0, 7) && in(b, 0, 1);
        }
        if (op == 7 || op == 8 || op == 9) {
            return in(a, 0, 7);
        }
        if (op == 4 || op == 5 || op == 11) {
            return in(a, 0, 59);
        }
        return op == 6 || op == 10;
    }

    int line(int op, int a, int b) {
        if (!lineIsAsTold(op, a, b)) {
            return BAD;
        }
        if (goes()) {
            return NO;
        }
        if (lines.size() == 60) {
            return FULL;
        }
        lines.add(new int[] {op, a, b});
        return lines.size() - 1;
    }

    int clear() {
        if (goes()) {
            return NO;
        }
        int were = lines.size();
        lines.clear();
        return were;
    }

    int script(int t, int i, boolean on) {
        if (!in(t, 1, 100000) || !in(i, 0, 7)) {
            return BAD;
        }
        if (scripts.size() == 40) {
            return FULL;
        }
        scripts.add(new int[] {t, i, on ? 1 : 0});
        return scripts.size();
    }

    int input(int i, boolean on) {
        if (!in(i, 0, 7)) {
            return BAD;
        }
        now.inputs[i] = on;
        return 1;
    }

    int run() {
        if (goes()) {
            return NO;
        }
        Now begun = new Now();
        begun.states = now.states;
        begun.travel = now.travel;
        begun.inputs = now.inputs;
        begun.stands = 1;
        now = begun;
        return 1;
    }

    int tick(int n) {
        if (!in(n, 1, 200)) {
            return BAD;
        }
        for (int i = 0; i < n; i++) {
            oneTick(now);
        }
        return now.stands;
    }

    int stop() {
        if (!goes()) {
            return NO;
        }
        stopBy(now, 9);
        return 1;
    }

    private void stopBy(Now m, int error) {
        m.stands = 3;
        m.error = error;
        m.go = null;
        m.wait = 0;
    }

    private void err(Now m, int error) {
        m.go = null;
        m.wait = 0;
        if (m.onError == NONE) {
            stopBy(m, error);
        } else if (m.onError >= lines.size()) {
            stopBy(m, 3);
        } else {
            m.error = error;
            m.line = m.onError;
            m.onError = NONE;
            m.putBy.clear();
        }
    }

    void oneTick(Now m) {
        if (m.stands != 1) {
            return;
        }
        m.time++;
        for (int[] s : scripts) {
            if (s[0] == m.time) {
                m.inputs[s[1]] = s[2] == 1;
            }
        }
        int count = 0;
        while (true) {
            if (m.go != null && m.go.search != NONE && m.inputs[m.go.search]) {
                m.go = null;
                m.line++;
                continue;
            }
            if (m.go != null) {
                tickOfGo(m);
                return;
            }
            if (m.wait > 0) {
                m.wait--;
                if (m.wait == 0) {
                    m.line++;
                }
                return;
            }
            if (m.line >= lines.size()) {
                m.line = lines.size();
                m.stands = 2;
                return;
            }
            if (++count == 101) {
                err(m, 4);
                return;
            }
            if (!lineLetsGoOn(m)) {
                return;
            }
        }
    }

    private void tickOfGo(Now m) {
        int[] next = m.go.rows[m.go.done + 1];
        for (int[] box : boxes) {
            if (box != null && boxHolds(box, tipOf(next))) {
                err(m, 2);
                return;
            }
        }
        for (int j = 0; j < 4; j++) {
            m.travel[j] += Math.abs(next[j] - m.states[j]);
        }
        m.states = next.clone();
        m.go.done++;
        if (m.go.done == m.go.rows.length - 1) {
            m.go = null;
            m.line++;
        }
    }

    /** Does the line that comes next; false where it ends the run or errs. */
    private boolean lineLetsGoOn(Now m) {
        int at = m.line;
        int op = lines.get(at)[0];
        int a = lines.get(at)[1];
        int b = lines.get(at)[2];
        m.did++;
        int error = 0;
        int next = at + 1;
        if (op == 0) {
            int search = m.search;
            m.search = NONE;
            int[] to = poses[a];
            for (int j = 0; j < 4; j++) {
                if (to == null || !in(to[j], low[j], high[j])) {
                    error = 1;
                }
            }
            if (error == 0 && !Arrays.equals(to, m.states)) {
                m.go = new Going(motion(m.states, to, b), search);
                next = at;
            }
        } else if (op == 1) {
            m.wait = a;
            next = a > 0 ? at : next;
        } else if (op == 2) {
            m.outs[a] = b == 1;
        } else if (op == 3) {
            next = m.inputs[a] == (b == 1) ? at + 2 : next;
        } else if (op == 4 || op == 5) {
            if (a >= lines.size()) {
                error = 3;
            } else if (op == 5 && m.putBy.size() == 12) {
                error = 5;
            } else if (op == 5) {
                m.putBy.add(at + 1);
            }
            next = a;
        } else if (op == 6) {
            if (m.putBy.isEmpty()) {
                m.stands = 2;
                return false;
            }
            next = m.putBy.remove(m.putBy.size() - 1);
        } else if (op == 7) {
            m.registers[a] = m.registers[a] + b;
        } else if (op == 8) {
            next = m.registers[a] < b ? at + 2 : next;
        } else if (op == 9) {
            m.search = a;
        } else if (op == 10) {
            m.stands = 2;
            return false;
        } else {
            m.onError = a;
        }
        if (error != 0) {
            err(m, error);
            return false;
        }
        m.line = next;
        return true;
    }

    int about(int what) {
        int ofGo = now.go == null ? 0 : now.go.rows.length - 1 - now.go.done;
        int[] all = {now.stands, now.time, now.line, now.error, now.putBy.size(), now.did,
            now.wait + ofGo, now.go == null ? 0 : 1, now.onError};
        return in(what, 0, 8) ? all[what] : BAD;
    }

    int at(int what, int i) {
        if (!in(what, 0, 2) || !in(i, 0, 7)) {
            return BAD_STATE;
        }
        return what == 1 ? now.registers[i] : (what == 0 ? now.outs : now.inputs)[i] ? 1 : 0;
    }

    long travel(int j) {
        return in(j, 0, 3) ? now.travel[j] : -1;
    }

    int keep(int k) {
        if (!in(k, 0, 3)) {
            return BAD;
        }
        kept[k] = now.copy();
        return 1;
    }

    private boolean canGoBack(int k) {
        boolean can = kept[k] != null;
        for (int j = 0; j < 4 && can; j++) {
            can = in(kept[k].states[j], low[j], high[j]);
        }
        return can;
    }

    int back(int k) {
        if (!in(k, 0, 3)) {
            return BAD;
        }
        if (!canGoBack(k)) {
            return NO;
        }
        now = kept[k].copy();
        return 1;
    }

    int replay(int k, int n) {
        if (!in(k, 0, 3) || !in(n, 1, 100)) {
            return BAD;
        }
        if (!canGoBack(k)) {
            return NO;
        }
        Now a = kept[k].copy();
        Now b = now.copy();
        for (int t = 0; t <= n; t++) {
            if (!Arrays.equals(a.states, b.states) || !Arrays.equals(a.outs, b.outs)
                    || !Arrays.equals(a.registers, b.registers)) {
                return t;
            }
            oneTick(a);
            oneTick(b);
        }
        return NONE;
    }

    int count(int what) {
        int told = 0;
        for (int[] box : boxes) {
            told += box == null ? 0 : 1;
        }
        int taught = 0;
        for (int[] pose : poses) {
            taught += pose == null ? 0 : 1;
        }
        int[] all = {lines.size(), scripts.size(), told, taught};
        return in(what, 0, 3) ? all[what] : BAD;
    }

    long digest() {
        List<Long> vs = new ArrayList<>();
        for (int i = 0; i < 4; i++) {
            vs.add((long) count(i));
        }
        for (int j = 0; j < 4; j++) {
            vs.add((long) state(j));
        }
        vs.add(tip(0));
        vs.add(tip(1));
        for (int i = 0; i < 9; i++) {
            vs.add((long) about(i));
        }
        for (int i = 0; i < 24; i++) {
            vs.add((long) at(i / 8, i % 8));
        }
        for (int j = 0; j < 4; j++) {
            vs.add(travel(j));
        }
        long h = 113;
        for (long v : vs) {
            h = 31 * h + v;
        }
        return h;
    }
}
