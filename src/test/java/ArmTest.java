/** Promises 1 to 9: the arm, the tip, sines and boxes. */
public final class ArmTest {
    private static final int FAR = Integer.MAX_VALUE;
    private static final int LOW_END = Integer.MIN_VALUE;

    public static void main(String[] args) {
        newObject();
        newObjectMoves();
        jointIsTold();
        jointRefuses();
        limitsAreTold();
        limitsRefuse();
        jogMovesByHand();
        jogRefuses();
        stateAnswers();
        tipOfTurningJoints();
        tipOfSlidingJoints();
        sineOfQuarters();
        sineIsNearTheRealOne();
        boxIsTold();
        boxRefuses();
        unboxForgets();
        Check.finish();
    }

    private static long bits(double value) {
        return Double.doubleToLongBits(value);
    }

    /** An object with a run that goes. */
    private static ArmPendant going() {
        ArmPendant x = new ArmPendant();
        x.run();
        return x;
    }

    private static void newObject() {
        Check.promise(1);
        ArmPendant x = new ArmPendant();
        for (int j = 0; j < 4; j++) {
            Check.due("state", x.state(j), 0);
            Check.due("travel", x.travel(j), 0);
        }
        Check.due("tip x", x.tip(0), bits(400.0));
        Check.due("tip y", x.tip(1), bits(0.0));
        for (int what = 0; what <= 7; what++) {
            Check.due("about " + what, x.about(what), 0);
        }
        Check.due("about 8", x.about(8), ArmPendant.NONE);
        for (int what = 0; what <= 2; what++) {
            for (int i = 0; i < 8; i++) {
                Check.due("at", x.at(what, i), 0);
            }
        }
        for (int what = 0; what <= 3; what++) {
            Check.due("count", x.count(what), 0);
        }
        for (int k = 0; k < 16; k++) {
            Check.due("pose", x.pose(k, 0), -2000000);
        }
        for (int k = 0; k < 4; k++) {
            Check.due("back", x.back(k), ArmPendant.NO);
            Check.due("unbox", x.unbox(k), ArmPendant.NO);
        }
        Check.due("NONE", ArmPendant.NONE, -1);
        Check.due("BAD", ArmPendant.BAD, -2);
        Check.due("NO", ArmPendant.NO, -3);
        Check.due("FULL", ArmPendant.FULL, -4);
    }

    private static void newObjectMoves() {
        Check.promise(1);
        for (int j = 0; j < 4; j++) {
            ArmPendant x = new ArmPendant();
            Check.due("jog above HIGH", x.jog(j, 500001), -2000000);
            Check.due("jog below LOW", x.jog(j, -500001), -2000000);
            Check.due("jog to LOW", x.jog(j, -500000), 0);
            Check.due("jog to HIGH", x.jog(j, 500000), -500000);
            // The 21 ticks of a rise of 1000 to a pace of 10000 go 120000, with a pace above that 121000.
            x.jog(j, 120000);
            x.teach(0);
            x.jog(j, 120001);
            x.teach(1);
            x.jog(j, 0);
            Check.due("plan 120000", x.plan(0, 100), 21);
            Check.due("plan 120001", x.plan(1, 100), 22);
            x.jog(j, 250000);
            Check.due("each joint turns", x.tip(1), bits(100.0 * (4 - j)));
        }
    }

    private static void jointIsTold() {
        Check.promise(2);
        ArmPendant x = new ArmPendant();
        Check.due("joint", x.joint(0, 0, 50, 100, 10), 1);
        Check.due("its length", x.tip(0), bits(350.0));
        Check.due("jog", x.jog(0, 20), 0);
        Check.due("teach", x.teach(0), 1);
        x.jog(0, 0);
        Check.due("its rise", x.plan(0, 100), 2);
        x.joint(0, 0, 50, 5, 10);
        Check.due("its pace", x.plan(0, 100), 4);
        x.joint(0, 1, 50, 5, 10);
        x.jog(0, 20);
        Check.due("its kind", x.tip(0), bits(350.0 + 0.02));
        Check.due("its state stays", x.state(0), 20);
        Check.due("least", x.joint(3, 0, 0, 1, 1), 1);
        Check.due("greatest", x.joint(3, 1, 1000, 100000, 100000), 1);
    }

    private static void jointRefuses() {
        Check.promise(2);
        ArmPendant x = new ArmPendant();
        int[][] wrong = {
            {-1, 0, 1, 1, 1}, {4, 0, 1, 1, 1}, {FAR, 0, 1, 1, 1}, {LOW_END, 0, 1, 1, 1},
            {0, -1, 1, 1, 1}, {0, 2, 1, 1, 1},
            {0, 0, -1, 1, 1}, {0, 0, 1001, 1, 1},
            {0, 0, 1, 0, 1}, {0, 0, 1, 100001, 1},
            {0, 0, 1, 1, 0}, {0, 0, 1, 1, 100001}, {0, 0, 1, 1, LOW_END},
        };
        long before = x.digest();
        for (int[] w : wrong) {
            Check.due("joint", x.joint(w[0], w[1], w[2], w[3], w[4]), ArmPendant.BAD);
        }
        Check.due("nothing changed", x.digest(), before);
        x = going();
        Check.due("joint in a run", x.joint(0, 0, 1, 1, 1), ArmPendant.NO);
        Check.due("BAD is ahead of NO", x.joint(0, 2, 1, 1, 1), ArmPendant.BAD);
        Check.due("nothing changed", x.tip(0), bits(400.0));
        x.stop();
        Check.due("joint behind a run", x.joint(0, 0, 1, 1, 1), 1);
    }

    private static void limitsAreTold() {
        Check.promise(3);
        ArmPendant x = new ArmPendant();
        Check.due("limits", x.limits(1, -1000000, 1000000), 1);
        Check.due("jog to LOW", x.jog(1, -1000000), 0);
        Check.due("jog to HIGH", x.jog(1, 1000000), -1000000);
        Check.due("jog above", x.jog(1, 1000001), -2000000);
        Check.due("LOW and HIGH are alike", x.limits(1, 1000000, 1000000), 1);
        Check.due("nothing else", x.jog(1, 999999), -2000000);
        Check.due("the next joint has its own", x.jog(2, 500001), -2000000);
        Check.due("only below", x.limits(3, -5, 0), 1);
        Check.due("jog above", x.jog(3, 1), -2000000);
        Check.due("jog below", x.jog(3, -6), -2000000);
    }

    private static void limitsRefuse() {
        Check.promise(3);
        ArmPendant x = new ArmPendant();
        Check.due("j", x.limits(-1, 0, 1), ArmPendant.BAD);
        Check.due("j", x.limits(4, 0, 1), ArmPendant.BAD);
        Check.due("low", x.limits(0, -1000001, 1), ArmPendant.BAD);
        Check.due("high", x.limits(0, 0, 1000001), ArmPendant.BAD);
        Check.due("low", x.limits(0, LOW_END, 1), ArmPendant.BAD);
        Check.due("low beyond above", x.limits(0, 1000001, 1000001), ArmPendant.BAD);
        Check.due("LOW above HIGH", x.limits(0, 1, 0), ArmPendant.BAD);
        Check.due("the state is below", x.limits(0, 1, 2), ArmPendant.NO);
        Check.due("the state is above", x.limits(0, -2, -1), ArmPendant.NO);
        Check.due("nothing changed", x.jog(0, 500000), 0);
        x = going();
        Check.due("limits in a run", x.limits(0, -1, 1), ArmPendant.NO);
        Check.due("BAD is ahead of NO", x.limits(0, 1, 0), ArmPendant.BAD);
        x.stop();
        Check.due("nothing changed", x.jog(0, -500000), 0);
    }

    private static void jogMovesByHand() {
        Check.promise(4);
        ArmPendant x = new ArmPendant();
        Check.due("what it was", x.jog(2, 77), 0);
        Check.due("what it was", x.jog(2, -78), 77);
        Check.due("state", x.state(2), -78);
        Check.due("the others stay", x.state(1), 0);
        Check.due("no travel by hand", x.travel(2), 0);
    }

    private static void jogRefuses() {
        Check.promise(4);
        ArmPendant x = new ArmPendant();
        x.limits(1, -10, 20);
        Check.due("j", x.jog(-1, 0), -2000000);
        Check.due("j", x.jog(4, 0), -2000000);
        Check.due("below LOW", x.jog(1, -11), -2000000);
        Check.due("above HIGH", x.jog(1, 21), -2000000);
        Check.due("state", x.state(1), 0);
        x.run();
        Check.due("in a run", x.jog(1, 5), -1000000);
        Check.due("BAD is ahead of NO", x.jog(1, 21), -2000000);
        Check.due("BAD is ahead of NO", x.jog(4, 0), -2000000);
        Check.due("state", x.state(1), 0);
    }

    private static void stateAnswers() {
        Check.promise(5);
        ArmPendant x = new ArmPendant();
        for (int j = 0; j < 4; j++) {
            x.jog(j, 10 + j);
        }
        for (int j = 0; j < 4; j++) {
            Check.due("state", x.state(j), 10 + j);
        }
        Check.due("j", x.state(-1), -2000000);
        Check.due("j", x.state(4), -2000000);
        Check.due("j", x.state(LOW_END), -2000000);
    }

    private static void tipOfTurningJoints() {
        Check.promise(6);
        ArmPendant x = new ArmPendant();
        x.jog(0, 250000);
        Check.due("x of a quarter", x.tip(0), bits(0.0));
        Check.due("y of a quarter", x.tip(1), bits(400.0));
        x.jog(1, 250000);
        Check.due("x of a half", x.tip(0), bits(-300.0));
        Check.due("y of a half", x.tip(1), bits(100.0));
        x.jog(2, -500000);
        Check.due("x of none", x.tip(0), bits(-100.0 + 200.0));
        Check.due("y of none", x.tip(1), bits(100.0));
        x.jog(0, 123456);
        x.jog(1, -100000);
        x.jog(2, 7);
        x.jog(3, -400000);
        double sx = 0.0;
        double sy = 0.0;
        for (int u : new int[] {123456, 23456, 23463, -376537}) {
            sx = sx + 100.0 * PlainPendant.sine(u + 250000);
            sy = sy + 100.0 * PlainPendant.sine(u);
        }
        Check.due("x", x.tip(0), bits(sx));
        Check.due("y", x.tip(1), bits(sy));
        Check.due("what", x.tip(-1), -1);
        Check.due("what", x.tip(2), -1);
        Check.due("what", x.tip(FAR), -1);
    }

    private static void tipOfSlidingJoints() {
        Check.promise(6);
        ArmPendant x = new ArmPendant();
        for (int j = 1; j < 4; j++) {
            x.joint(j, 0, 0, 1, 1);
        }
        x.joint(0, 1, 50, 1, 1);
        x.jog(0, 2500);
        Check.due("x", x.tip(0), bits(52.5));
        x.jog(0, -50500);
        Check.due("x below 0", x.tip(0), bits(-0.5));
        x.jog(0, -50000);
        Check.due("x is 0", x.tip(0), bits(0.0));
        x.joint(0, 1, 0, 1, 1);
        x.jog(0, 1);
        Check.due("least x", x.tip(0), bits(0.001));
        x.jog(0, -1);
        Check.due("least x below 0", x.tip(0), bits(-0.001));
        x.joint(0, 0, 0, 1, 1);
        x.jog(0, 250000);
        x.joint(1, 1, 10, 1, 1);
        x.jog(1, -30000);
        Check.due("a slide behind a turn: x", x.tip(0), bits(0.0));
        Check.due("a slide behind a turn: y", x.tip(1), bits(-20.0));
    }

    private static void sineOfQuarters() {
        Check.promise(7);
        ArmPendant x = new ArmPendant();
        Check.due("sine 0", x.sine(0), 0L);
        Check.due("sine of a quarter", x.sine(250000), bits(1.0));
        Check.due("sine of a half", x.sine(500000), 0L);
        Check.due("sine of three quarters", x.sine(750000), bits(-1.0));
        Check.due("sine of a turn", x.sine(1000000), 0L);
        Check.due("sine of an eighth", x.sine(125000), 4604544271217739786L);
        Check.due("sine behind an eighth", x.sine(125001), 4604544311235611860L);
        Check.due("sine 1", x.sine(1), 4529031901805000149L);
        Check.due("sine -1", x.sine(-1), 4529031901805000149L | Long.MIN_VALUE);
        Check.due("sine 499999", x.sine(499999), x.sine(1));
        Check.due("sine 500001", x.sine(500001), x.sine(-1));
        Check.due("greatest", x.sine(FAR), 4592055240695375707L);
        Check.due("least", x.sine(LOW_END), x.sine(516352));
    }

    private static void sineIsNearTheRealOne() {
        Check.promise(7);
        ArmPendant x = new ArmPendant();
        for (int u = -2000000; u <= 2000000; u += 9973) {
            double got = Double.longBitsToDouble(x.sine(u));
            double real = Math.sin(u * 2.0 * Math.PI / 1000000.0);
            Check.due("near " + u, got - real < 1e-10 && real - got < 1e-10);
            Check.due("the same " + u, x.sine(u), bits(PlainPendant.sine(u)));
        }
    }

    private static void boxIsTold() {
        Check.promise(8);
        ArmPendant x = new ArmPendant();
        Check.due("box", x.box(0, 401, 0, 402, 1), 1);
        Check.due("how many", x.count(2), 1);
        Check.due("anew", x.box(0, -10000, 1, 10000, 10000), 1);
        Check.due("how many", x.count(2), 1);
        Check.due("another", x.box(3, -10000, -10000, 399, 10000), 1);
        Check.due("how many", x.count(2), 2);
        // What a box is for shows in a run: the arm goes up into box 0 in its first tick, and so does not.
        x.jog(0, 1000);
        x.teach(0);
        x.jog(0, 0);
        x.line(0, 0, 100);
        x.run();
        Check.due("it stops", x.tick(1), 3);
        Check.due("in a box", x.about(3), 2);
        Check.due("it did not go", x.state(0), 0);
        eachSideOfABox();
    }

    /** The arm goes up in one tick to x 0, y 400: each box is one beside that, and then one with it. */
    private static void eachSideOfABox() {
        int[][] beside = {{1, 399, 2, 401}, {-2, 399, -1, 401}, {-1, 401, 1, 402}, {-1, 398, 1, 399}};
        int[][] with = {{0, 399, 2, 401}, {-2, 399, 0, 401}, {-1, 400, 1, 402}, {-1, 398, 1, 400}};
        for (int i = 0; i < 4; i++) {
            Check.due("beside " + i, stateBehindATick(beside[i]), 250000);
            Check.due("with " + i, stateBehindATick(with[i]), 0);
        }
    }

    private static int stateBehindATick(int[] box) {
        ArmPendant x = new ArmPendant();
        x.joint(0, 0, 400, 100000, 100000);
        for (int j = 1; j < 4; j++) {
            x.joint(j, 0, 0, 1, 1);
        }
        x.jog(0, 250000);
        x.teach(0);
        x.jog(0, 150000);
        x.box(1, box[0], box[1], box[2], box[3]);
        x.line(0, 0, 100);
        x.run();
        x.tick(1);
        return x.state(0) == 150000 ? 0 : x.state(0);
    }

    private static void boxRefuses() {
        Check.promise(8);
        ArmPendant x = new ArmPendant();
        int[][] wrong = {
            {-1, 0, 0, 1, 1}, {4, 0, 0, 1, 1},
            {0, -10001, 0, 1, 1}, {0, 0, -10001, 1, 1}, {0, 0, 0, 10001, 1}, {0, 0, 0, 1, 10001},
            {0, 1, 0, 1, 1}, {0, 2, 0, 1, 1}, {0, 0, 1, 1, 1}, {0, 0, 2, 1, 1}, {0, LOW_END, 0, FAR, 1},
        };
        for (int[] w : wrong) {
            Check.due("box", x.box(w[0], w[1], w[2], w[3], w[4]), ArmPendant.BAD);
        }
        Check.due("the tip is at its left", x.box(0, 400, -1, 401, 1), ArmPendant.NO);
        Check.due("the tip is at its right", x.box(0, 399, -1, 400, 1), ArmPendant.NO);
        Check.due("the tip is at its foot", x.box(0, 399, 0, 401, 1), ArmPendant.NO);
        Check.due("the tip is at its top", x.box(0, 399, -1, 401, 0), ArmPendant.NO);
        Check.due("none is told", x.count(2), 0);
        Check.due("right of the tip", x.box(0, 401, -1, 402, 1), 1);
        Check.due("left of the tip", x.box(1, 398, -1, 399, 1), 1);
        Check.due("above the tip", x.box(2, 399, 1, 401, 2), 1);
        Check.due("below the tip", x.box(3, 399, -2, 401, -1), 1);
        x.run();
        Check.due("box in a run", x.box(0, 500, 0, 501, 1), ArmPendant.NO);
        Check.due("BAD is ahead of NO", x.box(0, 1, 0, 1, 1), ArmPendant.BAD);
    }

    private static void unboxForgets() {
        Check.promise(9);
        ArmPendant x = new ArmPendant();
        Check.due("k", x.unbox(-1), ArmPendant.BAD);
        Check.due("k", x.unbox(4), ArmPendant.BAD);
        Check.due("not told", x.unbox(0), ArmPendant.NO);
        x.box(0, 0, 1, 500, 500);
        x.box(1, 0, -500, 500, -1);
        Check.due("unbox", x.unbox(0), 1);
        Check.due("how many", x.count(2), 1);
        Check.due("again", x.unbox(0), ArmPendant.NO);
        x.jog(0, 1000);
        x.teach(0);
        x.jog(0, 0);
        x.line(0, 0, 100);
        x.run();
        Check.due("unbox in a run", x.unbox(1), ArmPendant.NO);
        Check.due("BAD is ahead of NO", x.unbox(4), ArmPendant.BAD);
        Check.due("it goes", x.tick(1), 1);
        Check.due("where the box was", x.state(0), 1000);
    }
}
