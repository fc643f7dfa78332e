/**
 * Each number of each call: the least and the greatest that are as told, and those just beyond them; each refused
 * call with what it answers, which refusal comes first, and that it changes nothing.
 */
public final class RangeTest extends Programs {
    private static final int LEAST = Integer.MIN_VALUE;
    private static final int MOST = Integer.MAX_VALUE;
    private static final int BAD_STATE = -2000000;
    private static final int NO_STATE = -1000000;

    private static final Twins.World NEW = ArmPendant::new;
    private static final Twins.World RESTING = RangeTest::resting;
    private static final Twins.World GOING = RangeTest::going;
    private static final Twins.World WAITING = RangeTest::waiting;
    private static final Twins.World FILLED = RangeTest::filled;
    private static final Twins.World FILLED_GOING = RangeTest::filledGoing;
    private static final Twins.World[] ALL = {NEW, RESTING, GOING, WAITING, FILLED, FILLED_GOING};
    private static final Twins.World[] AT_REST = {NEW, RESTING, FILLED};
    private static final Twins.World[] UNDER_WAY = {GOING, WAITING, FILLED_GOING};

    public static void main(String[] args) {
        theWorldsAreWhatTheyAreFor();
        theArm();
        boxes();
        posesAndMotions();
        linesOfJustOneNumber();
        linesOfTwoNumbers();
        scriptsAndInputs();
        runs();
        answers();
        kept();
        counts();
        questions();
        Check.finish();
    }

    // ---- objects in which calls are refused

    /** All is told, pose 5 is not taught, box 3 not told; a state kept at 1 is beyond now, at 3 none is kept. */
    private static ArmPendant resting() {
        ArmPendant x = new ArmPendant();
        x.joint(0, 0, 100, 10, 10);
        x.joint(1, 1, 50, 20, 5);
        x.limits(1, -600, 600);
        x.teach(0);
        x.jog(0, 50);
        x.jog(1, 30);
        x.teach(1);
        x.teach(15);
        x.jog(0, 0);
        x.jog(1, 0);
        x.keep(0);
        x.box(0, -10000, 300, 0, 10000);
        x.box(1, 500, -10, 600, 10);
        x.box(2, 500, -20, 600, 10);
        int[][] lines = {l(ON_ERROR, 8, 0), l(OUT, 1, 1), l(CALL, 6, 0), l(GO, 0, 50), l(GO, 9, 100), l(END, 0, 0),
            l(SEARCH, 3, 0), l(GO, 1, 100), l(ADD, 2, 5), l(WAIT, 2, 0), l(IF_INPUT, 4, 1), l(RETURN, 0, 0),
            l(IF_BELOW, 2, 11), l(END, 0, 0), l(JUMP, 8, 0)};
        for (int[] l : lines) {
            x.line(l[0], l[1], l[2]);
        }
        x.script(4, 3, true);
        x.script(9, 4, true);
        x.script(11, 3, false);
        x.input(5, true);
        x.jog(2, 7);
        x.keep(1);
        x.jog(2, 0);
        x.limits(2, -5, 5);
        x.run();
        x.tick(5);
        x.keep(2);
        x.tick(200);
        return x;
    }

    private static ArmPendant going() {
        return begunAgain(resting(), 2);
    }

    private static ArmPendant waiting() {
        return begunAgain(resting(), 4);
    }

    private static ArmPendant filled() {
        ArmPendant x = resting();
        for (int i = x.count(0); i < 60; i++) {
            x.line(WAIT, 1, 0);
        }
        for (int i = x.count(1); i < 40; i++) {
            x.script(i, 7, i % 2 == 0);
        }
        return x;
    }

    private static ArmPendant filledGoing() {
        return begunAgain(filled(), 2);
    }

    private static ArmPendant begunAgain(ArmPendant x, int ticks) {
        x.input(3, false);
        x.input(4, false);
        x.run();
        x.tick(ticks);
        return x;
    }

    private static void theWorldsAreWhatTheyAreFor() {
        Check.promise(21);
        Check.due("none began", NEW.make().about(0), 0);
        Check.due("ended", resting().about(0), 2);
        Check.due("a go is under way", going().about(7), 1);
        Check.due("a wait is under way", waiting().about(7) == 0 && waiting().about(6) > 0);
        Check.due("lines are full", filled().count(0), 60);
        Check.due("scripts are full", filled().count(1), 40);
        Check.due("goes, and is full", filledGoing().about(0), 1);
    }

    // ---- how they are asked

    private static String told(String what, int... a) {
        return what + java.util.Arrays.toString(a);
    }

    private static void refused(String what, Twins.World[] worlds, Twins.Call call, long due, int... a) {
        for (int w = 0; w < worlds.length; w++) {
            Check.due(told(what, a) + " in world " + w, call.ask(worlds[w].make(), a), due);
        }
        changesNothing(what, worlds, call, a);
    }

    private static void changesNothing(String what, Twins.World[] worlds, Twins.Call call, int... a) {
        for (int w = 0; w < worlds.length; w++) {
            ArmPendant x = worlds[w].make();
            call.ask(x, a);
            String difference = Twins.difference(x, worlds[w].make());
            Check.due(told(what, a) + " changes nothing in world " + w + " " + difference, difference.isEmpty());
        }
    }

    /** Each number in turn just beyond its least and its greatest, and far beyond; the others stay as they are. */
    private static void refusedBeyond(String what, Twins.Call call, long due, int[] right, int[]... ranges) {
        for (int i = 0; i < ranges.length; i++) {
            for (int wrong : new int[] {ranges[i][0] - 1, ranges[i][1] + 1, LEAST, MOST}) {
                int[] a = right.clone();
                a[i] = wrong;
                refused(what, ALL, call, due, a);
            }
        }
    }

    private static void taken(String what, Twins.World world, Twins.Call call, long due, int... a) {
        Check.due(told(what, a), call.ask(world.make(), a), due);
    }

    /** Each number in turn at its least and its greatest, and all at once; the others stay as they are. */
    private static void takenAtEnds(String what, Twins.World world, Twins.Call call, long due, int[] right,
            int[]... ranges) {
        int[] least = right.clone();
        int[] most = right.clone();
        for (int i = 0; i < ranges.length; i++) {
            least[i] = ranges[i][0];
            most[i] = ranges[i][1];
            for (int end : ranges[i]) {
                int[] a = right.clone();
                a[i] = end;
                taken(what, world, call, due, a);
            }
        }
        taken(what, world, call, due, least);
        taken(what, world, call, due, most);
    }

    private static int[] n(int... numbers) {
        return numbers;
    }

    // ---- the promises

    private static void theArm() {
        Check.promise(2);
        Twins.Call joint = (x, a) -> x.joint(a[0], a[1], a[2], a[3], a[4]);
        int[][] ofJoint = {n(0, 3), n(0, 1), n(0, 1000), n(1, 100000), n(1, 100000)};
        takenAtEnds("joint", RESTING, joint, 1, n(1, 1, 50, 20, 5), ofJoint);
        refusedBeyond("joint", joint, ArmPendant.BAD, n(2, 1, 51, 21, 6), ofJoint);
        refused("joint", UNDER_WAY, joint, ArmPendant.NO, 2, 1, 51, 21, 6);

        Check.promise(3);
        Twins.Call limits = (x, a) -> x.limits(a[0], a[1], a[2]);
        int far = 1000000;
        takenAtEnds("limits", RESTING, limits, 1, n(1, -1, 1), n(0, 3), n(-far, 0), n(0, far));
        taken("limits", RESTING, limits, 1, 3, 0, 0);
        refusedBeyond("limits", limits, ArmPendant.BAD, n(1, -1, 1), n(0, 3), n(-far, far), n(-far, far));
        refused("limits, LOW above HIGH", ALL, limits, ArmPendant.BAD, 3, 1, 0);
        refused("limits, LOW above HIGH", ALL, limits, ArmPendant.BAD, 3, 0, -1);
        refused("limits, LOW above HIGH", ALL, limits, ArmPendant.BAD, 3, far, -far);
        refused("limits, the STATE is below", ALL, limits, ArmPendant.NO, 3, 1, 1);
        refused("limits, the STATE is above", ALL, limits, ArmPendant.NO, 3, -1, -1);
        refused("limits, the STATE is below", ALL, limits, ArmPendant.NO, 3, far, far);
        refused("limits, the STATE is above", ALL, limits, ArmPendant.NO, 3, -far, -far);
        refused("limits", UNDER_WAY, limits, ArmPendant.NO, 3, -1, 1);

        Check.promise(4);
        Twins.Call jog = (x, a) -> x.jog(a[0], a[1]);
        takenAtEnds("jog", NEW, jog, 0, n(1, 2), n(0, 3), n(-500000, 500000));
        refusedBeyond("jog", jog, BAD_STATE, n(3, 2), n(0, 3), n(-500000, 500000));
        refused("jog", UNDER_WAY, jog, NO_STATE, 3, -500000);
        refused("jog", UNDER_WAY, jog, NO_STATE, 3, 500000);
        refused("jog to where it is", UNDER_WAY, jog, NO_STATE, 3, 0);
        refused("jog, its own LOW", new Twins.World[] {RESTING, GOING}, jog, BAD_STATE, 1, -601);
        refused("jog, its own HIGH", new Twins.World[] {RESTING, GOING}, jog, BAD_STATE, 1, 601);

        Check.promise(5);
        Twins.Call state = (x, a) -> x.state(a[0]);
        takenAtEnds("state", NEW, state, 0, n(1), n(0, 3));
        refusedBeyond("state", state, BAD_STATE, n(1), n(0, 3));

        Check.promise(6);
        Twins.Call tip = (x, a) -> x.tip(a[0]);
        taken("tip x", NEW, tip, Double.doubleToLongBits(400.0), 0);
        taken("tip y", NEW, tip, 0, 1);
        refusedBeyond("tip", tip, -1, n(0), n(0, 1));
    }

    private static void boxes() {
        Check.promise(8);
        Twins.Call box = (x, a) -> x.box(a[0], a[1], a[2], a[3], a[4]);
        int far = 10000;
        takenAtEnds("box", NEW, box, 1, n(1, 5, 5, 9, 9), n(0, 3), n(-far, 8), n(-far, 8), n(6, far), n(6, far));
        taken("box, the least", NEW, box, 1, 0, -far, -far, 1 - far, 1 - far);
        taken("box, the greatest", NEW, box, 1, 0, far - 1, far - 1, far, far);
        taken("box, told anew", FILLED, box, 1, 0, 5, 5, 9, 9);
        refusedBeyond("box", box, ArmPendant.BAD, n(1, 5, 5, 9, 9), n(0, 3), n(-far, far), n(-far, far), n(-far, far),
                n(-far, far));
        refused("box, x0 is x1", ALL, box, ArmPendant.BAD, 1, 5, 5, 5, 9);
        refused("box, x0 above x1", ALL, box, ArmPendant.BAD, 1, 6, 5, 5, 9);
        refused("box, y0 is y1", ALL, box, ArmPendant.BAD, 1, 5, 5, 9, 5);
        refused("box, y0 above y1", ALL, box, ArmPendant.BAD, 1, 5, 6, 9, 5);
        refused("box, only a line with THE TIP", ALL, box, ArmPendant.BAD, 1, 0, 0, 1000, 0);
        refused("box with THE TIP", ALL, box, ArmPendant.NO, 3, 0, -1000, 1000, 1000);
        refused("box with THE TIP, told anew", ALL, box, ArmPendant.NO, 1, 0, -1000, 1000, 1000);
        refused("box", UNDER_WAY, box, ArmPendant.NO, 3, 5, 5, 9, 9);

        Check.promise(9);
        Twins.Call unbox = (x, a) -> x.unbox(a[0]);
        takenAtEnds("unbox", RESTING, unbox, 1, n(1), n(0, 2));
        refusedBeyond("unbox", unbox, ArmPendant.BAD, n(1), n(0, 3));
        refused("unbox, not told", ALL, unbox, ArmPendant.NO, 3);
        refused("unbox", UNDER_WAY, unbox, ArmPendant.NO, 0);
    }

    private static void posesAndMotions() {
        Check.promise(10);
        Twins.Call teach = (x, a) -> x.teach(a[0]);
        takenAtEnds("teach", GOING, teach, 1, n(3), n(0, 15));
        refusedBeyond("teach", teach, ArmPendant.BAD, n(3), n(0, 15));

        Check.promise(11);
        Twins.Call pose = (x, a) -> x.pose(a[0], a[1]);
        int[][] ofPose = {n(0, 15), n(0, 3)};
        taken("pose, the least", RESTING, pose, 0, 0, 0);
        taken("pose, the greatest", RESTING, pose, 0, 15, 3);
        taken("pose, the greatest", RESTING, pose, 50, 15, 0);
        refusedBeyond("pose", pose, BAD_STATE, n(1, 1), ofPose);
        refused("pose, not taught", ALL, pose, BAD_STATE, 5, 1);

        Check.promise(12);
        Twins.Call plan = (x, a) -> x.plan(a[0], a[1]);
        int[][] ofPlan = {n(0, 15), n(1, 100)};
        taken("plan", RESTING, plan, 50, 15, 1);
        taken("plan", RESTING, plan, 0, 0, 100);
        refusedBeyond("plan", plan, ArmPendant.BAD, n(1, 50), ofPlan);
        refusedBeyond("plan, not taught", plan, ArmPendant.BAD, n(5, 50), ofPlan);
        refused("plan, not taught", ALL, plan, ArmPendant.NO, 5, 50);

        Check.promise(13);
        Twins.Call along = (x, a) -> x.along(a[0], a[1], a[2], a[3]);
        taken("along", RESTING, along, 50, 15, 1, 50, 0);
        taken("along", RESTING, along, 0, 15, 1, 0, 0);
        taken("along", RESTING, along, 0, 0, 100, 0, 3);
        refusedBeyond("along", along, BAD_STATE, n(1, 50, 1, 1), n(0, 15), n(1, 100), n(0, 51), n(0, 3));
        refused("along, behind its TICKS", AT_REST, along, BAD_STATE, 1, 1, 51, 0);
        refused("along, not taught", ALL, along, BAD_STATE, 5, 50, 0, 1);
    }

    /** b is free, so that it is never looked at. */
    private static void linesOfJustOneNumber() {
        Check.promise(14);
        Twins.Call line = (x, a) -> x.line(a[0], a[1], a[2]);
        int[][] ends = {n(WAIT, 0, 1000), n(JUMP, 0, 59), n(CALL, 0, 59), n(ADD, 0, 7), n(IF_BELOW, 0, 7),
            n(SEARCH, 0, 7), n(ON_ERROR, 0, 59), n(RETURN, LEAST, MOST), n(END, LEAST, MOST)};
        for (int[] e : ends) {
            for (int b : new int[] {LEAST, -1, 0, 1, 101, MOST}) {
                taken("line", NEW, line, 0, e[0], e[1], b);
                taken("line", RESTING, line, 15, e[0], e[2], b);
            }
            if (e[1] == 0) {
                for (int a : new int[] {-1, e[2] + 1, LEAST, MOST}) {
                    refused("line", ALL, line, ArmPendant.BAD, e[0], a, 1);
                }
            }
            refused("line", UNDER_WAY, line, ArmPendant.NO, e[0], e[2], 1);
            refused("line", new Twins.World[] {FILLED}, line, ArmPendant.FULL, e[0], e[2], 1);
        }
        for (int op : new int[] {-1, 12, LEAST, MOST}) {
            refused("line", ALL, line, ArmPendant.BAD, op, 1, 1);
        }
    }

    private static void linesOfTwoNumbers() {
        Check.promise(14);
        Twins.Call line = (x, a) -> x.line(a[0], a[1], a[2]);
        int[][] ends = {n(GO, 15, 1, 100), n(OUT, 7, 0, 1), n(IF_INPUT, 7, 0, 1)};
        for (int[] e : ends) {
            for (int b : new int[] {e[2], e[3]}) {
                taken("line", NEW, line, 0, e[0], 0, b);
                taken("line", RESTING, line, 15, e[0], e[1], b);
                for (int a : new int[] {-1, e[1] + 1, LEAST, MOST}) {
                    refused("line", ALL, line, ArmPendant.BAD, e[0], a, b);
                }
                refused("line", UNDER_WAY, line, ArmPendant.NO, e[0], e[1], b);
                refused("line", new Twins.World[] {FILLED}, line, ArmPendant.FULL, e[0], e[1], b);
            }
            for (int b : new int[] {e[2] - 1, e[3] + 1, LEAST, MOST}) {
                refused("line", ALL, line, ArmPendant.BAD, e[0], e[1], b);
            }
        }
        Check.promise(15);
        Twins.Call clear = (x, a) -> x.clear();
        taken("clear, none there", NEW, clear, 0);
        taken("clear, full", FILLED, clear, 60);
        refused("clear", UNDER_WAY, clear, ArmPendant.NO);
    }

    private static void scriptsAndInputs() {
        Check.promise(16);
        Twins.Call script = (x, a) -> x.script(a[0], a[1], a[2] == 1);
        Twins.World[] full = {FILLED, FILLED_GOING};
        int[][] ofScript = {n(1, 100000), n(0, 7)};
        for (int on = 0; on <= 1; on++) {
            takenAtEnds("script", NEW, script, 1, n(2, 3, on), ofScript);
            takenAtEnds("script", GOING, script, 4, n(2, 3, on), ofScript);
            refusedBeyond("script", script, ArmPendant.BAD, n(2, 3, on), ofScript);
            refused("script", full, script, ArmPendant.FULL, 2, 3, on);
        }
        Check.promise(17);
        Twins.Call input = (x, a) -> x.input(a[0], a[1] == 1);
        for (int on = 0; on <= 1; on++) {
            takenAtEnds("input", NEW, input, 1, n(3, on), n(0, 7));
            takenAtEnds("input", GOING, input, 1, n(3, on), n(0, 7));
            refusedBeyond("input", input, ArmPendant.BAD, n(3, on), n(0, 7));
        }
    }

    private static void runs() {
        Check.promise(18);
        Twins.Call run = (x, a) -> x.run();
        for (Twins.World w : AT_REST) {
            taken("run", w, run, 1);
        }
        refused("run", UNDER_WAY, run, ArmPendant.NO);
        Check.promise(19);
        Twins.Call tick = (x, a) -> x.tick(a[0]);
        takenAtEnds("tick, none began", NEW, tick, 0, n(1), n(1, 200));
        takenAtEnds("tick, ended", RESTING, tick, 2, n(1), n(1, 200));
        refusedBeyond("tick", tick, ArmPendant.BAD, n(1), n(1, 200));
        refused("tick, none began", new Twins.World[] {NEW}, tick, 0, 200);
        refused("tick, ended", new Twins.World[] {RESTING, FILLED}, tick, 2, 200);
        Check.promise(20);
        Twins.Call stop = (x, a) -> x.stop();
        for (Twins.World w : UNDER_WAY) {
            taken("stop", w, stop, 1);
        }
        refused("stop", AT_REST, stop, ArmPendant.NO);
    }

    private static void answers() {
        Check.promise(21);
        Twins.Call about = (x, a) -> x.about(a[0]);
        taken("about, the least", GOING, about, 1, 0);
        taken("about, the greatest", GOING, about, 8, 8);
        refusedBeyond("about", about, ArmPendant.BAD, n(0), n(0, 8));
        Check.promise(22);
        Twins.Call at = (x, a) -> x.at(a[0], a[1]);
        takenAtEnds("at", NEW, at, 0, n(1, 3), n(0, 2), n(0, 7));
        refusedBeyond("at", at, BAD_STATE, n(1, 3), n(0, 2), n(0, 7));
        Check.promise(23);
        Twins.Call travel = (x, a) -> x.travel(a[0]);
        takenAtEnds("travel", NEW, travel, 0, n(1), n(0, 3));
        refusedBeyond("travel", travel, -1, n(1), n(0, 3));
    }

    private static void kept() {
        Check.promise(24);
        Twins.Call keep = (x, a) -> x.keep(a[0]);
        takenAtEnds("keep", GOING, keep, 1, n(1), n(0, 3));
        refusedBeyond("keep", keep, ArmPendant.BAD, n(1), n(0, 3));
        Twins.World[] told = {RESTING, GOING, WAITING, FILLED, FILLED_GOING};
        Check.promise(25);
        Twins.Call back = (x, a) -> x.back(a[0]);
        taken("back, the least", GOING, back, 1, 0);
        refusedBeyond("back", back, ArmPendant.BAD, n(0), n(0, 3));
        refused("back, nothing is kept", ALL, back, ArmPendant.NO, 3);
        refused("back, beyond HIGH", told, back, ArmPendant.NO, 1);
        Check.promise(26);
        Twins.Call replay = (x, a) -> x.replay(a[0], a[1]);
        int[][] ofReplay = {n(0, 3), n(1, 100)};
        taken("replay, the least", GOING, replay, 0, 0, 1);
        taken("replay, the greatest", GOING, replay, 0, 2, 100);
        refusedBeyond("replay", replay, ArmPendant.BAD, n(0, 50), ofReplay);
        refusedBeyond("replay, nothing is kept", replay, ArmPendant.BAD, n(3, 50), ofReplay);
        refused("replay, nothing is kept", ALL, replay, ArmPendant.NO, 3, 50);
        refused("replay, beyond HIGH", told, replay, ArmPendant.NO, 1, 50);
    }

    /** Questions that are answered, and not refused. */
    private static void questions() {
        Check.promise(26);
        for (int k = 0; k <= 2; k += 2) {
            changesNothing("replay", ALL, (x, a) -> x.replay(a[0], a[1]), k, 100);
        }
        Check.promise(28);
        changesNothing("digest", ALL, (x, a) -> x.digest());
        Check.promise(5);
        changesNothing("state", ALL, (x, a) -> x.state(a[0]), 0);
        Check.promise(6);
        changesNothing("tip", ALL, (x, a) -> x.tip(a[0]), 1);
        Check.promise(7);
        changesNothing("sine", ALL, (x, a) -> x.sine(a[0]), LEAST);
        Check.promise(11);
        changesNothing("pose", ALL, (x, a) -> x.pose(a[0], a[1]), 1, 0);
        Check.promise(12);
        changesNothing("plan", ALL, (x, a) -> x.plan(a[0], a[1]), 1, 10);
        Check.promise(13);
        changesNothing("along", ALL, (x, a) -> x.along(a[0], a[1], a[2], a[3]), 1, 10, 3, 0);
    }

    private static void counts() {
        Check.promise(27);
        Twins.Call count = (x, a) -> x.count(a[0]);
        takenAtEnds("count", NEW, count, 0, n(1), n(0, 3));
        taken("count of LINES", FILLED, count, 60, 0);
        taken("count of POSES", FILLED, count, 3, 3);
        refusedBeyond("count", count, ArmPendant.BAD, n(1), n(0, 3));
    }
}
