/** All promises: long runs of calls made by a fixed rule, asked of ArmPendant and of PlainPendant alike. */
public final class PlainPendantTest {
    private static final int RUNS = 1500;
    private static final int CALLS = 512;
    private static final int[] ODD = {-1, Integer.MAX_VALUE, Integer.MIN_VALUE, 4, 8, 16, 60, 101, -2000000};

    private long seed;
    private ArmPendant real;
    private PlainPendant plain;
    private String told;

    public static void main(String[] args) {
        for (int run = 1; run <= RUNS; run++) {
            new PlainPendantTest().askAll(run);
        }
        Check.finish();
    }

    private void askAll(int run) {
        seed = run * 7919L;
        real = new ArmPendant();
        plain = new PlainPendant();
        for (int call = 1; call <= CALLS; call++) {
            long[] both = call % 8 == 0 ? digests() : ask();
            if (both[0] != both[1]) {
                Check.due("run " + run + " call " + call + " " + told, both[0], both[1]);
                return;
            }
        }
        Check.due("run " + run, true);
    }

    private long[] digests() {
        told = "digest()";
        return new long[] {real.digest(), plain.digest()};
    }

    private int below(int bound) {
        seed = seed * 6364136223846793005L + 1442695040888963407L;
        return (int) ((seed >>> 33) % bound);
    }

    /** A number from low to high, and now and then one that is odd. */
    private int some(int low, int high) {
        if (below(60) == 0) {
            return ODD[below(ODD.length)];
        }
        if (below(60) == 0) {
            return below(2) == 0 ? low - 1 : high + 1;
        }
        return low + below(high - low + 1);
    }

    private long[] ask() {
        int kind = below(20);
        if (kind < 3) {
            return askTick();
        }
        if (kind < 7) {
            return askLine();
        }
        if (kind < 10) {
            return askArm();
        }
        if (kind < 13) {
            return askPose();
        }
        if (kind < 16) {
            return askRun();
        }
        return kind < 18 ? askKept() : askAnswer();
    }

    private long[] askTick() {
        int n = below(10) == 0 ? some(1, 200) : some(1, 6);
        told = "tick(" + n + ")";
        return new long[] {real.tick(n), plain.tick(n)};
    }

    private long[] askLine() {
        int op = some(0, 11);
        int a = some(0, 7);
        int b = some(0, 1);
        if (op == 0) {
            a = some(0, 3);
            b = some(1, 100);
        } else if (op == 1) {
            a = some(0, 4);
        } else if (op == 7 || op == 8) {
            b = some(-3, 3);
        } else if (op == 4 || op == 5 || op == 11) {
            a = below(6) == 0 ? some(0, 59) : some(0, 12);
        }
        told = "line(" + op + ", " + a + ", " + b + ")";
        return new long[] {real.line(op, a, b), plain.line(op, a, b)};
    }

    private long[] askArm() {
        int which = below(6);
        int j = some(0, 3);
        if (which == 0) {
            int kind = some(0, 1);
            int length = some(0, 300);
            int pace = some(1, 400);
            int rise = some(1, 200);
            told = "joint(" + j + ", " + kind + ", " + length + ", " + pace + ", " + rise + ")";
            return new long[] {real.joint(j, kind, length, pace, rise), plain.joint(j, kind, length, pace, rise)};
        }
        if (which == 1) {
            int low = some(-900, 100);
            int high = some(-100, 900);
            told = "limits(" + j + ", " + low + ", " + high + ")";
            return new long[] {real.limits(j, low, high), plain.limits(j, low, high)};
        }
        if (which == 2) {
            int k = some(0, 3);
            int x = some(200, 450);
            int y = some(-3, 3);
            int w = some(0, 90);
            int h = some(0, 3);
            told = "box(" + k + ", " + x + ", " + y + ", " + (x + w) + ", " + (y + h) + ")";
            return new long[] {real.box(k, x, y, x + w, y + h), plain.box(k, x, y, x + w, y + h)};
        }
        if (which == 3) {
            told = "unbox(" + j + ")";
            return new long[] {real.unbox(j), plain.unbox(j)};
        }
        int state = some(-600, 600);
        told = "jog(" + j + ", " + state + ")";
        return new long[] {real.jog(j, state), plain.jog(j, state)};
    }

    private long[] askPose() {
        int k = some(0, 3);
        int which = below(4);
        if (which < 2) {
            told = "teach(" + k + ")";
            return new long[] {real.teach(k), plain.teach(k)};
        }
        int share = some(1, 100);
        if (which == 2) {
            told = "plan(" + k + ", " + share + ")";
            return new long[] {real.plan(k, share), plain.plan(k, share)};
        }
        int t = some(0, 20);
        int j = some(0, 3);
        told = "along(" + k + ", " + share + ", " + t + ", " + j + ")";
        return new long[] {real.along(k, share, t, j), plain.along(k, share, t, j)};
    }

    private long[] askRun() {
        int which = below(16);
        boolean on = below(2) == 0;
        int i = some(0, 7);
        if (which < 8) {
            told = "run()";
            return new long[] {real.run(), plain.run()};
        }
        if (which < 10) {
            told = "stop()";
            return new long[] {real.stop(), plain.stop()};
        }
        if (which < 12) {
            int t = some(1, 30);
            told = "script(" + t + ", " + i + ", " + on + ")";
            return new long[] {real.script(t, i, on), plain.script(t, i, on)};
        }
        if (which < 15 || below(4) > 0) {
            told = "input(" + i + ", " + on + ")";
            return new long[] {real.input(i, on), plain.input(i, on)};
        }
        told = "clear()";
        return new long[] {real.clear(), plain.clear()};
    }

    private long[] askKept() {
        int k = some(0, 3);
        int which = below(3);
        if (which == 0) {
            told = "keep(" + k + ")";
            return new long[] {real.keep(k), plain.keep(k)};
        }
        if (which == 1) {
            told = "back(" + k + ")";
            return new long[] {real.back(k), plain.back(k)};
        }
        int n = some(1, 100);
        told = "replay(" + k + ", " + n + ")";
        return new long[] {real.replay(k, n), plain.replay(k, n)};
    }

    private long[] askAnswer() {
        int which = below(8);
        int i = some(0, 8);
        int k = some(0, 3);
        told = "answer " + which + " of " + i + " and " + k;
        switch (which) {
            case 0: return new long[] {real.state(k), plain.state(k)};
            case 1: return new long[] {real.tip(k), plain.tip(k)};
            case 2: return new long[] {real.sine(i * 77777 + k), Double.doubleToLongBits(PlainPendant.sine(i * 77777 + k))};
            case 3: return new long[] {real.about(i), plain.about(i)};
            case 4: return new long[] {real.at(k, i), plain.at(k, i)};
            case 5: return new long[] {real.travel(k), plain.travel(k)};
            case 6: return new long[] {real.count(k), plain.count(k)};
            default: return new long[] {real.pose(i, k), plain.pose(i, k)};
        }
    }
}
