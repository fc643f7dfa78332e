import java.math.BigInteger;

/** What tests of programs begin with. */
abstract class Programs {
    static final int GO = 0;
    static final int WAIT = 1;
    static final int OUT = 2;
    static final int IF_INPUT = 3;
    static final int JUMP = 4;
    static final int CALL = 5;
    static final int RETURN = 6;
    static final int ADD = 7;
    static final int IF_BELOW = 8;
    static final int SEARCH = 9;
    static final int END = 10;
    static final int ON_ERROR = 11;

    /** Joint 0 goes 10 in each tick; pose 0 is at 0, where it stands, pose 1 at 50. */
    static ArmPendant arm(int[]... lines) {
        ArmPendant x = new ArmPendant();
        x.joint(0, 0, 100, 10, 10);
        x.teach(0);
        x.jog(0, 50);
        x.teach(1);
        x.jog(0, 0);
        for (int[] l : lines) {
            x.line(l[0], l[1], l[2]);
        }
        return x;
    }

    static ArmPendant begun(int[]... lines) {
        ArmPendant x = arm(lines);
        x.run();
        return x;
    }

    static int[] l(int op, int a, int b) {
        return new int[] {op, a, b};
    }

    /** The digest by what the other calls answer: without wrapping, and cut to 64 bits at its end. */
    static long sum(ArmPendant x) {
        BigInteger h = BigInteger.valueOf(113);
        for (int what = 0; what <= 3; what++) {
            h = next(h, x.count(what));
        }
        for (int j = 0; j <= 3; j++) {
            h = next(h, x.state(j));
        }
        h = next(next(h, x.tip(0)), x.tip(1));
        for (int what = 0; what <= 8; what++) {
            h = next(h, x.about(what));
        }
        for (int i = 0; i < 24; i++) {
            h = next(h, x.at(i / 8, i % 8));
        }
        for (int j = 0; j <= 3; j++) {
            h = next(h, x.travel(j));
        }
        return h.longValue();
    }

    private static BigInteger next(BigInteger h, long v) {
        return h.multiply(BigInteger.valueOf(31)).add(BigInteger.valueOf(v));
    }
}
