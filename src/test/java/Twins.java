import java.util.ArrayList;
import java.util.List;

/**
 * Two objects made alike, one of which was asked a call more: if that call changed nothing, both answer all
 * that follows alike. What follows here asks for all that can be told of an object, and lets its runs go on.
 */
final class Twins {
    /** One call, with the numbers that it is asked with. */
    interface Call {
        long ask(ArmPendant x, int... a);
    }

    /** A way to make an object; each time just the same. */
    interface World {
        ArmPendant make();
    }

    private Twins() {
    }

    /** Where the answers begin to differ, or an empty text. */
    static String difference(ArmPendant x, ArmPendant y) {
        List<Long> ofX = allThatFollows(x);
        List<Long> ofY = allThatFollows(y);
        for (int i = 0; i < ofX.size(); i++) {
            if (!ofX.get(i).equals(ofY.get(i))) {
                return "answer " + i + " is " + ofX.get(i) + " and not " + ofY.get(i);
            }
        }
        return "";
    }

    /** Some 340 calls, so that the object stays below 512. */
    private static List<Long> allThatFollows(ArmPendant x) {
        List<Long> told = new ArrayList<>();
        tellPoses(x, told);
        tellReplays(x, told);
        tellTicks(x, told, 12);
        told.add((long) x.stop());
        for (int k = 0; k < 4; k++) {
            told.add((long) x.back(k));
            tellTicks(x, told, 3);
        }
        told.add((long) x.stop());
        told.add((long) x.run());
        tellTicks(x, told, 20);
        told.add((long) x.stop());
        tellLimits(x, told);
        tellCounts(x, told);
        return told;
    }

    private static void tellPoses(ArmPendant x, List<Long> told) {
        for (int k = 0; k < 16; k++) {
            for (int j = 0; j < 4; j++) {
                told.add((long) x.pose(k, j));
            }
        }
        for (int share = 1; share <= 100; share += 33) {
            told.add((long) x.plan(1, share));
            told.add((long) x.plan(15, share));
            told.add((long) x.along(1, share, 2, 1));
        }
    }

    private static void tellReplays(ArmPendant x, List<Long> told) {
        for (int k = 0; k < 4; k++) {
            told.add((long) x.replay(k, 60));
        }
    }

    private static void tellTicks(ArmPendant x, List<Long> told, int ticks) {
        told.add(x.digest());
        for (int t = 0; t < ticks; t++) {
            told.add((long) x.tick(1));
            told.add(x.digest());
        }
    }

    private static void tellLimits(ArmPendant x, List<Long> told) {
        for (int j = 0; j < 4; j++) {
            for (int end : new int[] {5, 600, 500000}) {
                for (int state : new int[] {end + 1, end, -end - 1, -end}) {
                    told.add((long) x.jog(j, state));
                }
            }
        }
    }

    private static void tellCounts(ArmPendant x, List<Long> told) {
        for (int k = 0; k < 4; k++) {
            told.add((long) x.unbox(k));
        }
        told.add((long) x.line(10, 0, 0));
        told.add((long) x.clear());
        told.add((long) x.script(1, 0, true));
        for (int what = 0; what < 4; what++) {
            told.add((long) x.count(what));
        }
    }
}
