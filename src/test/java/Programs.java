/** What tests of programs begin with. */
abstract class Programs {
    static final int GO = 0;
    static final int WAIT = 1;
    static final int OUT = 2;
    static final int IF_INPUT = 3;
    static final int JUMP = 4;
    static final int CALL = 5;
    static final int RETURN = 6;
    static final int ADD = 7;
    static final int IF_BELOW = 8;
    static final int SEARCH = 9;
    static final int END = 10;
    static final int ON_ERROR = 11;

    /** Joint 0 goes 10 in each tick; pose 0 is at 0, where it stands, pose 1 at 50. */
    static ArmPendant arm(int[]... lines) {
        ArmPendant x = new ArmPendant();
        x.joint(0, 0, 100, 10, 10);
        x.teach(0);
        x.jog(0, 50);
        x.teach(1);
        x.jog(0, 0);
        for (int[] l : lines) {
            x.line(l[0], l[1], l[2]);
        }
        return x;
    }

    static ArmPendant begun(int[]... lines) {
        ArmPendant x = arm(lines);
        x.run();
        return x;
    }

    static int[] l(int op, int a, int b) {
        return new int[] {op, a, b};
    }
}
