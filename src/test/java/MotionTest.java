/** Promises 10 to 13: poses taught, and how motions are timed. */
public final class MotionTest {
    public static void main(String[] args) {
        teachAndPose();
        planByRiseAndPace();
        planIsLeast();
        planOfShares();
        planOfLongWays();
        planRefuses();
        alongRisesAndFalls();
        alongFollowsTheLeader();
        alongWithTheFirstOfLeaders();
        alongRefuses();
        Check.finish();
    }

    private static ArmPendant arm(int pace, int rise) {
        ArmPendant x = new ArmPendant();
        for (int j = 0; j < 4; j++) {
            x.limits(j, -1000000, 1000000);
            x.joint(j, 0, 100, pace, rise);
        }
        return x;
    }

    private static void pose(ArmPendant x, int k, int... states) {
        int[] were = new int[4];
        for (int j = 0; j < states.length; j++) {
            were[j] = x.jog(j, states[j]);
        }
        x.teach(k);
        for (int j = 0; j < states.length; j++) {
            x.jog(j, were[j]);
        }
    }

    private static void teachAndPose() {
        ArmPendant x = new ArmPendant();
        Check.promise(11);
        Check.due("not taught", x.pose(0, 0), -2000000);
        Check.promise(10);
        Check.due("k", x.teach(-1), ArmPendant.BAD);
        Check.due("k", x.teach(16), ArmPendant.BAD);
        Check.due("k", x.teach(Integer.MIN_VALUE), ArmPendant.BAD);
        Check.due("none", x.count(3), 0);
        for (int j = 0; j < 4; j++) {
            x.jog(j, 5 - j);
        }
        Check.due("teach", x.teach(0), 1);
        Check.due("teach", x.teach(15), 1);
        Check.due("how many", x.count(3), 2);
        Check.promise(11);
        x.jog(0, 99);
        for (int j = 0; j < 4; j++) {
            Check.due("pose 0", x.pose(0, j), 5 - j);
            Check.due("pose 15", x.pose(15, j), 5 - j);
        }
        Check.due("pose 1", x.pose(1, 0), -2000000);
        Check.due("k", x.pose(-1, 0), -2000000);
        Check.due("k", x.pose(16, 0), -2000000);
        Check.due("j", x.pose(0, -1), -2000000);
        Check.due("j", x.pose(0, 4), -2000000);
        Check.promise(10);
        Check.due("anew", x.teach(0), 1);
        Check.due("anew", x.pose(0, 0), 99);
        Check.due("how many", x.count(3), 2);
        x.run();
        Check.due("in a run", x.teach(3), 1);
    }

    private static void planByRiseAndPace() {
        Check.promise(12);
        ArmPendant x = arm(30, 10);
        // What can be gone in 1, 2, .. ticks: 10, 20, 40, 60, 90, 120, 150.
        int[] gone = {10, 20, 40, 60, 90, 120, 150};
        for (int n = 1; n <= gone.length; n++) {
            pose(x, 0, gone[n - 1]);
            Check.due("just " + n, x.plan(0, 100), n);
            pose(x, 0, 0, 0, -gone[n - 1]);
            Check.due("down, just " + n, x.plan(0, 100), n);
            pose(x, 0, gone[n - 1] + 1);
            Check.due("one more than " + n, x.plan(0, 100), n + 1);
        }
        pose(x, 0, 0);
        Check.due("all are alike", x.plan(0, 100), 0);
        pose(x, 0, 1, 41, -91, 20);
        Check.due("the most of all", x.plan(0, 100), 6);
        x.jog(2, -91);
        Check.due("from where it is", x.plan(0, 100), 4);
    }

    private static void planIsLeast() {
        Check.promise(12);
        int[] paces = {1, 7, 30, 31, 100000};
        int[] rises = {1, 3, 30, 32, 100000};
        for (int pace : paces) {
            for (int rise : rises) {
                ArmPendant x = arm(pace, rise);
                for (int way = 1; way <= 400; way += 19) {
                    pose(x, 1, 0, way);
                    Check.due("plan " + pace + " " + rise + " " + way, x.plan(1, 100),
                            PlainPendant.leastTicks(way, pace, rise));
                }
            }
        }
    }

    private static void planOfShares() {
        Check.promise(12);
        ArmPendant x = arm(150, 1000);
        pose(x, 2, 300);
        Check.due("all of it", x.plan(2, 100), 2);
        Check.due("half of it", x.plan(2, 50), 4);
        Check.due("cut: 1 of 1.5", x.plan(2, 1), 300);
        x = arm(99, 1000);
        pose(x, 2, 300);
        Check.due("at least 1", x.plan(2, 1), 300);
        Check.due("cut: 98 of 98.01", x.plan(2, 99), 4);
        Check.due("100", x.plan(2, 100), 4);
    }

    private static void planOfLongWays() {
        Check.promise(12);
        ArmPendant x = arm(1, 1);
        x.jog(3, -1000000);
        pose(x, 0, 0, 0, 0, 1000000);
        Check.due("the longest", x.plan(0, 1), 2000000);
        Check.promise(13);
        Check.due("its middle", x.along(0, 1, 1000000, 3), 0);
        Check.due("its end", x.along(0, 1, 2000000, 3), 1000000);
        Check.due("beyond its end", x.along(0, 1, 2000001, 3), -2000000);
        Check.promise(12);
        x.joint(3, 0, 100, 100000, 1);
        // n rising and n falling ticks go n(n + 1): 1413 of them 1997982, and one more between them 1414 more.
        Check.due("rise and fall alone", x.plan(0, 100), 2828);
        x.joint(3, 0, 100, 100000, 100000);
        Check.due("the fastest", x.plan(0, 100), 20);
    }

    private static void planRefuses() {
        Check.promise(12);
        ArmPendant x = arm(10, 10);
        Check.due("not taught", x.plan(0, 100), ArmPendant.NO);
        Check.due("share, ahead of NO", x.plan(0, 0), ArmPendant.BAD);
        Check.due("share", x.plan(0, 101), ArmPendant.BAD);
        Check.due("k", x.plan(-1, 100), ArmPendant.BAD);
        Check.due("k", x.plan(16, 100), ArmPendant.BAD);
        pose(x, 15, 50);
        Check.due("plan", x.plan(15, 100), 5);
        x.run();
        Check.due("in a run", x.plan(15, 100), 5);
    }

    private static void alongRisesAndFalls() {
        Check.promise(13);
        ArmPendant x = arm(30, 10);
        pose(x, 0, 100);
        int[] due = {0, 10, 30, 60, 90, 100, 100};
        for (int t = 0; t < due.length; t++) {
            Check.due("up, behind " + t, x.along(0, 100, t, 0), due[t]);
        }
        x.jog(0, 100);
        pose(x, 1, -20);
        int[] down = {100, 90, 70, 40, 10, -10, -20};
        for (int t = 0; t < down.length; t++) {
            Check.due("down, behind " + t, x.along(1, 100, t, 0), down[t]);
        }
        // 2 + 4 + 5 + 5 + 4 + 2 are 22: a pace of 5 between the rises of 2.
        x = arm(10, 2);
        pose(x, 0, 21);
        int[] half = {0, 2, 6, 11, 16, 20, 21};
        for (int t = 0; t < half.length; t++) {
            Check.due("by half, behind " + t, x.along(0, 50, t, 0), half[t]);
        }
        Check.due("it stays", x.state(0), 0);
    }

    private static void alongFollowsTheLeader() {
        Check.promise(13);
        ArmPendant x = arm(30, 10);
        pose(x, 0, 100, -7, 50, 0);
        int[] lead = {0, 10, 30, 60, 90, 100, 100};
        int[] toward = {0, 0, -2, -4, -6, -7, -7};
        for (int t = 0; t < lead.length; t++) {
            Check.due("leader", x.along(0, 100, t, 0), lead[t]);
            Check.due("cut toward 0", x.along(0, 100, t, 1), toward[t]);
            Check.due("half the way", x.along(0, 100, t, 2), lead[t] / 2);
            Check.due("no way", x.along(0, 100, t, 3), 0);
        }
        // A short way with a small pace leads a long one.
        x.joint(1, 0, 100, 1, 1);
        Check.due("plan", x.plan(0, 100), 7);
        int[] far = {0, 14, 28, 42, 57, 71, 85, 100};
        for (int t = 0; t < far.length; t++) {
            Check.due("behind the slow one", x.along(0, 100, t, 0), far[t]);
            Check.due("the slow one", x.along(0, 100, t, 1), -t);
        }
    }

    private static void alongWithTheFirstOfLeaders() {
        Check.promise(13);
        ArmPendant x = arm(30, 10);
        pose(x, 0, 95, 100);
        pose(x, 1, 100, 95);
        Check.due("both have 6", x.plan(0, 100), 6);
        int[] led = {0, 10, 31, 63, 94, 100, 100};
        int[] lead = {0, 10, 30, 60, 90, 95, 95};
        int[] slow = {0, 9, 28, 57, 85, 95, 95};
        for (int t = 0; t < led.length; t++) {
            Check.due("0 leads", x.along(0, 100, t, 0), lead[t]);
            Check.due("1 is led", x.along(0, 100, t, 1), led[t]);
            Check.due("1 is led", x.along(1, 100, t, 1), slow[t]);
        }
    }

    private static void alongRefuses() {
        Check.promise(13);
        ArmPendant x = arm(10, 10);
        Check.due("not taught", x.along(0, 100, 0, 0), -2000000);
        pose(x, 0, 50);
        Check.due("t", x.along(0, 100, -1, 0), -2000000);
        Check.due("t", x.along(0, 100, Integer.MIN_VALUE, 0), -2000000);
        Check.due("its last", x.along(0, 100, 5, 0), 50);
        Check.due("t beyond", x.along(0, 100, 6, 0), -2000000);
        Check.due("t beyond", x.along(0, 100, Integer.MAX_VALUE, 0), -2000000);
        Check.due("share", x.along(0, 0, 0, 0), -2000000);
        Check.due("share", x.along(0, 101, 0, 0), -2000000);
        Check.due("k", x.along(-1, 100, 0, 0), -2000000);
        Check.due("k", x.along(16, 100, 0, 0), -2000000);
        Check.due("j", x.along(0, 100, 0, -1), -2000000);
        Check.due("j", x.along(0, 100, 0, 4), -2000000);
        x.jog(0, 50);
        Check.due("0 ticks", x.along(0, 100, 0, 0), 50);
        Check.due("beyond 0 ticks", x.along(0, 100, 1, 0), -2000000);
    }
}
