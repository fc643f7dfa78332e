/** Promises 14 to 23: lines, scripts, inputs, runs and what is told of them. */
public final class ProgramTest extends Programs {
    public static void main(String[] args) {
        lineIsTold();
        lineRefuses();
        lineIsFull();
        clearForgets();
        scriptIsTold();
        scriptsAreDoneInOrder();
        inputIsSet();
        runBeginsAnew();
        tickRefuses();
        tickEndsAProgramWithoutLines();
        goTakesTicks();
        goOfNoTicks();
        waitTakesTicks();
        outsAndSkips();
        skipOfTheLastLine();
        jumpAndEnd();
        callAndBack();
        registersAdd();
        searchEndsGo();
        searchAheadOfTheFirstTick();
        searchIsForOneGo();
        errorOfPose();
        errorOfBox();
        errorOfLine();
        errorOfLineForErrors();
        errorOfManyLines();
        manyLinesAreCountedByTick();
        errorOfManyCalls();
        lineForErrors();
        stopByHand();
        aboutRefuses();
        atAnswers();
        travelAddsUp();
        Check.finish();
    }

    /** The answers of about, from 0 on. */
    private static void about(String when, ArmPendant x, int... due) {
        for (int what = 0; what < due.length; what++) {
            Check.due(when + ", about " + what, x.about(what), due[what]);
        }
    }

    private static void lineIsTold() {
        Check.promise(14);
        ArmPendant x = new ArmPendant();
        int far = Integer.MAX_VALUE;
        int[][] right = {
            {0, 0, 1}, {0, 15, 100}, {1, 0, far}, {1, 1000, -far}, {2, 0, 0}, {2, 7, 1}, {3, 0, 0}, {3, 7, 1},
            {4, 0, far}, {4, 59, -far}, {5, 0, far}, {5, 59, -far}, {6, far, far}, {6, -far, -far},
            {7, 0, far}, {7, 7, Integer.MIN_VALUE}, {8, 0, far}, {8, 7, Integer.MIN_VALUE}, {9, 0, far}, {9, 7, -far},
            {10, far, far}, {10, -far, -far}, {11, 0, far}, {11, 59, -far},
        };
        for (int i = 0; i < right.length; i++) {
            Check.due("line " + i, x.line(right[i][0], right[i][1], right[i][2]), i);
        }
        Check.due("how many", x.count(0), right.length);
    }

    private static void lineRefuses() {
        Check.promise(14);
        ArmPendant x = new ArmPendant();
        int[][] wrong = {
            {-1, 0, 1}, {12, 0, 1}, {Integer.MAX_VALUE, 0, 1}, {Integer.MIN_VALUE, 0, 1},
            {0, -1, 1}, {0, 16, 1}, {0, 0, 0}, {0, 0, 101}, {1, -1, 0}, {1, 1001, 0},
            {2, -1, 0}, {2, 8, 0}, {2, 0, -1}, {2, 0, 2}, {3, -1, 0}, {3, 8, 0}, {3, 0, -1}, {3, 0, 2},
            {4, -1, 0}, {4, 60, 0}, {5, -1, 0}, {5, 60, 0}, {7, -1, 0}, {7, 8, 0}, {8, -1, 0}, {8, 8, 0},
            {9, -1, 0}, {9, 8, 0}, {11, -1, 0}, {11, 60, 0},
        };
        for (int[] w : wrong) {
            Check.due("line " + w[0] + " " + w[1] + " " + w[2], x.line(w[0], w[1], w[2]), ArmPendant.BAD);
        }
        Check.due("how many", x.count(0), 0);
        x.run();
        Check.due("in a run", x.line(END, 0, 0), ArmPendant.NO);
        Check.due("BAD is ahead of NO", x.line(12, 0, 0), ArmPendant.BAD);
        Check.due("how many", x.count(0), 0);
    }

    private static void lineIsFull() {
        Check.promise(14);
        ArmPendant x = new ArmPendant();
        for (int i = 0; i < 60; i++) {
            Check.due("line", x.line(WAIT, 1, 0), i);
        }
        Check.due("the 61st", x.line(END, 0, 0), ArmPendant.FULL);
        Check.due("BAD is ahead of FULL", x.line(12, 0, 0), ArmPendant.BAD);
        Check.due("how many", x.count(0), 60);
        x.run();
        Check.due("NO is ahead of FULL", x.line(END, 0, 0), ArmPendant.NO);
        Check.due("all go", x.tick(61), 2);
        about("all went", x, 2, 61, 60, 0, 0, 60, 0, 0, -1);
    }

    private static void clearForgets() {
        Check.promise(15);
        ArmPendant x = arm(l(WAIT, 2, 0), l(END, 0, 0));
        x.script(1, 1, true);
        x.run();
        Check.due("in a run", x.clear(), ArmPendant.NO);
        Check.due("how many", x.count(0), 2);
        x.tick(9);
        Check.due("clear", x.clear(), 2);
        Check.due("none", x.count(0), 0);
        Check.due("again", x.clear(), 0);
        Check.due("scripts stay", x.count(1), 1);
        Check.due("poses stay", x.count(3), 2);
        Check.due("the next is 0", x.line(END, 0, 0), 0);
    }

    private static void scriptIsTold() {
        Check.promise(16);
        ArmPendant x = new ArmPendant();
        Check.due("t", x.script(0, 0, true), ArmPendant.BAD);
        Check.due("t", x.script(-1, 0, true), ArmPendant.BAD);
        Check.due("t", x.script(100001, 0, true), ArmPendant.BAD);
        Check.due("i", x.script(1, -1, true), ArmPendant.BAD);
        Check.due("i", x.script(1, 8, true), ArmPendant.BAD);
        Check.due("none", x.count(1), 0);
        x.run();
        for (int i = 1; i <= 40; i++) {
            Check.due("script", x.script(i == 1 ? 100000 : i, i % 8, false), i);
        }
        Check.due("the 41st", x.script(1, 0, true), ArmPendant.FULL);
        Check.due("BAD is ahead of FULL", x.script(0, 0, true), ArmPendant.BAD);
        Check.due("how many", x.count(1), 40);
        x = arm(l(WAIT, 99, 0));
        for (int i = 1; i <= 40; i++) {
            x.script(i, 3, i % 2 == 0);
        }
        x.run();
        for (int i = 1; i <= 40; i++) {
            x.tick(1);
            Check.due("input 3 at " + i, x.at(2, 3), (i + 1) % 2);
        }
    }

    private static void scriptsAreDoneInOrder() {
        Check.promise(16);
        ArmPendant x = arm(l(WAIT, 100, 0));
        x.script(2, 3, true);
        x.script(4, 3, true);
        x.script(4, 3, false);
        x.script(5, 3, false);
        x.script(5, 3, true);
        x.script(5, 7, true);
        x.run();
        int[] due = {0, 1, 1, 0, 1, 1};
        for (int t = 1; t <= due.length; t++) {
            x.tick(1);
            Check.due("input 3 at " + t, x.at(2, 3), due[t - 1]);
        }
        Check.due("input 7", x.at(2, 7), 1);
        x.stop();
        x.input(3, false);
        x.run();
        x.tick(2);
        Check.due("in the next run too", x.at(2, 3), 1);
        // A script of a tick that is gone is for the next run.
        x.script(1, 0, true);
        x.tick(1);
        Check.due("gone", x.at(2, 0), 0);
        // The inputs become as told ahead of the lines of the tick.
        x = arm(l(IF_INPUT, 1, 1), l(END, 0, 0), l(OUT, 0, 1), l(WAIT, 1, 0));
        x.script(1, 1, true);
        x.run();
        x.tick(1);
        Check.due("out", x.at(0, 0), 1);
    }

    private static void inputIsSet() {
        Check.promise(17);
        ArmPendant x = arm(l(WAIT, 9, 0));
        Check.due("i", x.input(-1, true), ArmPendant.BAD);
        Check.due("i", x.input(8, true), ArmPendant.BAD);
        for (int i = 0; i < 8; i++) {
            Check.due("on", x.input(i, true), 1);
            Check.due("is on", x.at(2, i), 1);
        }
        Check.due("off", x.input(5, false), 1);
        Check.due("is off", x.at(2, 5), 0);
        x.run();
        Check.due("stays in a run", x.at(2, 4), 1);
        Check.due("in a run", x.input(4, false), 1);
        x.tick(3);
        Check.due("is off", x.at(2, 4), 0);
        Check.due("stays on", x.at(2, 3), 1);
    }

    private static void runBeginsAnew() {
        Check.promise(18);
        ArmPendant x = arm(l(ON_ERROR, 3, 0), l(SEARCH, 0, 0), l(JUMP, 59, 0), l(OUT, 2, 1), l(ADD, 5, 9),
                l(ON_ERROR, 6, 0), l(CALL, 7, 0), l(WAIT, 1, 0), l(GO, 1, 100));
        x.input(0, true);
        Check.due("run", x.run(), 1);
        about("begun", x, 1, 0, 0, 0, 0, 0, 0, 0, -1);
        Check.due("one goes", x.run(), ArmPendant.NO);
        x.tick(2);
        about("under way", x, 1, 2, 8, 3, 1, 8, 0, 0, 6);
        x.stop();
        about("stopped", x, 3, 2, 8, 9, 1, 8, 0, 0, 6);
        Check.due("out", x.at(0, 2), 1);
        Check.due("register", x.at(1, 5), 9);
        x.clear();
        x.line(GO, 1, 100);
        Check.due("run", x.run(), 1);
        about("begun anew", x, 1, 0, 0, 0, 0, 0, 0, 0, -1);
        Check.due("outs are off", x.at(0, 2), 0);
        Check.due("registers are 0", x.at(1, 5), 0);
        Check.due("inputs stay", x.at(2, 0), 1);
        x.tick(1);
        Check.due("no search is left over", x.state(0), 10);
        x.tick(20);
        Check.due("ended", x.about(0), 2);
        Check.due("run behind an end", x.run(), 1);
        for (int i = 0; i < 8; i++) {
            x = begun(l(OUT, i, 1), l(ADD, i, 1), l(WAIT, 1, 0));
            x.tick(1);
            x.stop();
            Check.due("out " + i + " stays", x.at(0, i), 1);
            Check.due("register " + i + " stays", x.at(1, i), 1);
            x.run();
            Check.due("out " + i + " is off", x.at(0, i), 0);
            Check.due("register " + i + " is 0", x.at(1, i), 0);
        }
    }

    private static void tickRefuses() {
        Check.promise(19);
        ArmPendant x = arm(l(WAIT, 500, 0));
        Check.due("none began", x.tick(5), 0);
        Check.due("no time", x.about(1), 0);
        x.run();
        Check.due("n", x.tick(0), ArmPendant.BAD);
        Check.due("n", x.tick(-1), ArmPendant.BAD);
        Check.due("n", x.tick(201), ArmPendant.BAD);
        Check.due("no time", x.about(1), 0);
        Check.due("1", x.tick(1), 1);
        Check.due("200", x.tick(200), 1);
        Check.due("time", x.about(1), 201);
        x.stop();
        Check.due("stopped", x.tick(3), 3);
        Check.due("no time", x.about(1), 201);
    }

    private static void tickEndsAProgramWithoutLines() {
        Check.promise(19);
        ArmPendant x = begun();
        Check.due("it ends", x.tick(7), 2);
        about("ended", x, 2, 1, 0, 0, 0, 0, 0, 0, -1);
        Check.due("as it stands", x.tick(7), 2);
        about("ended", x, 2, 1, 0, 0, 0, 0, 0, 0, -1);
    }

    private static void goTakesTicks() {
        Check.promise(19);
        ArmPendant x = begun(l(GO, 1, 100), l(WAIT, 1, 0));
        for (int t = 1; t <= 4; t++) {
            Check.due("going", x.tick(1), 1);
            Check.due("state", x.state(0), 10 * t);
            about("under way", x, 1, t, 0, 0, 0, 1, 5 - t, 1, -1);
        }
        // A pose that is taught anew is for the next go.
        x.teach(1);
        Check.due("its last", x.tick(1), 1);
        Check.due("state", x.state(0), 50);
        about("over", x, 1, 5, 1, 0, 0, 1, 0, 0, -1);
        x.tick(1);
        about("waited", x, 1, 6, 2, 0, 0, 2, 0, 0, -1);
        Check.due("ended", x.tick(1), 2);
        about("ended", x, 2, 7, 2, 0, 0, 2, 0, 0, -1);
        x.run();
        x.tick(1);
        Check.due("to the pose taught anew", x.state(0), 40);
        about("over", x, 1, 1, 1, 0, 0, 1, 0, 0, -1);
        x = begun(l(GO, 1, 50));
        x.tick(1);
        Check.due("with half the pace", x.state(0), 5);
        about("under way", x, 1, 1, 0, 0, 0, 1, 9, 1, -1);
    }

    private static void goOfNoTicks() {
        Check.promise(19);
        ArmPendant x = begun(l(GO, 0, 100), l(OUT, 0, 1), l(GO, 0, 1), l(GO, 1, 100));
        x.tick(1);
        Check.due("out", x.at(0, 0), 1);
        Check.due("state", x.state(0), 10);
        about("the go that takes time", x, 1, 1, 3, 0, 0, 4, 4, 1, -1);
    }

    private static void waitTakesTicks() {
        Check.promise(19);
        ArmPendant x = begun(l(WAIT, 0, 0), l(WAIT, 3, 0), l(WAIT, 1, 0), l(OUT, 1, 1));
        x.tick(1);
        about("1 gone", x, 1, 1, 1, 0, 0, 2, 2, 0, -1);
        x.tick(1);
        about("2 gone", x, 1, 2, 1, 0, 0, 2, 1, 0, -1);
        x.tick(1);
        about("3 gone", x, 1, 3, 2, 0, 0, 2, 0, 0, -1);
        x.tick(1);
        about("the next", x, 1, 4, 3, 0, 0, 3, 0, 0, -1);
        Check.due("out", x.at(0, 1), 0);
        Check.due("ends", x.tick(1), 2);
        Check.due("out", x.at(0, 1), 1);
        about("ended", x, 2, 5, 4, 0, 0, 4, 0, 0, -1);
    }

    private static void outsAndSkips() {
        Check.promise(19);
        for (int on = 0; on <= 1; on++) {
            ArmPendant x = arm(l(OUT, 7, 1), l(IF_INPUT, 4, 1), l(OUT, 7, 0), l(IF_INPUT, 4, 0), l(OUT, 6, 1));
            x.input(4, on == 1);
            x.run();
            x.tick(1);
            Check.due("out 7 by a skip if on", x.at(0, 7), on);
            Check.due("out 6 by a skip if off", x.at(0, 6), on);
            Check.due("lines done", x.about(5), 4);
        }
    }

    private static void skipOfTheLastLine() {
        Check.promise(21);
        ArmPendant x = begun(l(OUT, 0, 1), l(IF_INPUT, 0, 0));
        Check.due("ended", x.tick(1), 2);
        about("as many as there are", x, 2, 1, 2, 0, 0, 2, 0, 0, -1);
        x.line(END, 0, 0);
        x.run();
        Check.due("skipped", x.tick(1), 2);
        about("as many as there are", x, 2, 1, 3, 0, 0, 2, 0, 0, -1);
    }

    private static void jumpAndEnd() {
        Check.promise(19);
        ArmPendant x = begun(l(JUMP, 3, 0), l(OUT, 0, 1), l(END, 0, 0), l(OUT, 1, 1), l(JUMP, 1, 0));
        Check.due("ended", x.tick(1), 2);
        Check.due("out 0", x.at(0, 0), 1);
        Check.due("out 1", x.at(0, 1), 1);
        about("the line with which it did", x, 2, 1, 2, 0, 0, 5, 0, 0, -1);
    }

    private static void callAndBack() {
        Check.promise(19);
        ArmPendant x = begun(l(CALL, 2, 0), l(RETURN, 0, 0), l(CALL, 5, 0), l(WAIT, 1, 0), l(RETURN, 0, 0),
                l(WAIT, 1, 0), l(RETURN, 0, 0));
        x.tick(1);
        about("two put by", x, 1, 1, 6, 0, 2, 3, 0, 0, -1);
        x.tick(1);
        about("one put by", x, 1, 2, 4, 0, 1, 5, 0, 0, -1);
        Check.due("ended", x.tick(1), 2);
        about("back with none put by", x, 2, 3, 1, 0, 0, 7, 0, 0, -1);
        x = begun(l(JUMP, 2, 0), l(RETURN, 0, 0), l(CALL, 1, 0));
        Check.due("back behind the last", x.tick(1), 2);
        about("ended", x, 2, 1, 3, 0, 0, 3, 0, 0, -1);
    }

    private static void registersAdd() {
        Check.promise(19);
        ArmPendant x = begun(l(ADD, 7, Integer.MAX_VALUE), l(ADD, 7, 1), l(ADD, 0, -4), l(ADD, 0, -5),
                l(IF_BELOW, 0, -9), l(OUT, 0, 1), l(IF_BELOW, 0, -8), l(OUT, 1, 1), l(IF_BELOW, 7, 0), l(OUT, 2, 1));
        Check.due("ended", x.tick(1), 2);
        Check.due("wraps", x.at(1, 7), Integer.MIN_VALUE);
        Check.due("adds", x.at(1, 0), -9);
        Check.due("not below: it is that", x.at(0, 0), 1);
        Check.due("below", x.at(0, 1), 0);
        Check.due("below", x.at(0, 2), 0);
        // Where it skips nothing it is nothing else either, such as a search.
        x = arm(l(IF_BELOW, 3, 0), l(GO, 1, 100));
        x.input(3, true);
        x.run();
        x.tick(1);
        Check.due("it goes", x.state(0), 10);
    }

    private static void searchEndsGo() {
        Check.promise(19);
        ArmPendant x = arm(l(SEARCH, 6, 0), l(GO, 1, 100), l(OUT, 0, 1), l(WAIT, 5, 0));
        x.script(3, 6, true);
        x.run();
        x.tick(2);
        about("under way", x, 1, 2, 1, 0, 0, 2, 3, 1, -1);
        x.tick(1);
        Check.due("no tick of it went", x.state(0), 20);
        Check.due("lines went on", x.at(0, 0), 1);
        about("in the wait", x, 1, 3, 3, 0, 0, 4, 4, 0, -1);
        Check.due("travel", x.travel(0), 20);
    }

    private static void searchAheadOfTheFirstTick() {
        Check.promise(19);
        ArmPendant x = arm(l(SEARCH, 1, 0), l(SEARCH, 2, 0), l(GO, 1, 100), l(WAIT, 1, 0), l(SEARCH, 3, 0),
                l(GO, 1, 100));
        x.input(2, true);
        x.run();
        x.tick(1);
        Check.due("it did not go", x.state(0), 0);
        about("behind the wait", x, 1, 1, 4, 0, 0, 4, 0, 0, -1);
        // An input that is on only behind the last tick ends nothing.
        x.script(7, 3, true);
        x.tick(6);
        about("over by itself", x, 2, 7, 6, 0, 0, 6, 0, 0, -1);
        Check.due("it went", x.state(0), 50);
    }

    private static void searchIsForOneGo() {
        Check.promise(19);
        // A go of no ticks, and one with an error, use the search up.
        ArmPendant x = arm(l(SEARCH, 2, 0), l(GO, 0, 100), l(GO, 1, 100));
        x.input(2, true);
        x.run();
        x.tick(1);
        Check.due("behind one of no ticks", x.state(0), 10);
        x = arm(l(ON_ERROR, 3, 0), l(SEARCH, 2, 0), l(GO, 9, 100), l(GO, 1, 100));
        x.input(2, true);
        x.run();
        x.tick(2);
        about("behind one with an error", x, 1, 2, 3, 1, 0, 4, 4, 1, -1);
        Check.due("it went", x.state(0), 10);
        // An error of another line leaves it.
        x = arm(l(ON_ERROR, 3, 0), l(SEARCH, 2, 0), l(JUMP, 59, 0), l(GO, 1, 100), l(GO, 1, 100));
        x.input(2, true);
        x.run();
        x.tick(2);
        about("the second goes", x, 1, 2, 4, 3, 0, 5, 4, 1, -1);
    }

    private static void errorOfPose() {
        Check.promise(21);
        ArmPendant x = begun(l(WAIT, 1, 0), l(GO, 9, 100), l(END, 0, 0));
        Check.due("stopped", x.tick(9), 3);
        about("not taught", x, 3, 2, 1, 1, 0, 2, 0, 0, -1);
        for (int side = -1; side <= 1; side += 2) {
            x = arm(l(GO, 1, 100));
            x.jog(3, side * 7);
            x.teach(1);
            x.jog(3, 0);
            x.limits(3, side < 0 ? -6 : -7, side < 0 ? 7 : 6);
            x.run();
            Check.due("stopped", x.tick(1), 3);
            about("beyond", x, 3, 1, 0, 1, 0, 1, 0, 0, -1);
            x.limits(3, -7, 7);
            x.run();
            Check.due("it goes", x.tick(1), 1);
        }
        // The pose is looked at ahead of the search and of the ticks.
        x = arm(l(SEARCH, 0, 0), l(GO, 9, 100));
        x.input(0, true);
        x.run();
        Check.due("stopped", x.tick(1), 3);
        Check.due("error", x.about(3), 1);
    }

    private static void errorOfBox() {
        Check.promise(21);
        ArmPendant x = new ArmPendant();
        for (int j = 1; j < 4; j++) {
            x.joint(j, 0, 0, 1, 1);
        }
        x.joint(0, 1, 0, 1000, 1000);
        x.jog(0, 10000);
        x.teach(0);
        x.jog(0, 0);
        x.line(GO, 0, 100);
        x.line(OUT, 0, 1);
        Check.due("box", x.box(2, 4, 0, 5, 1), 1);
        x.run();
        Check.due("it goes", x.tick(3), 1);
        Check.due("stopped", x.tick(1), 3);
        about("in a box", x, 3, 4, 0, 2, 0, 1, 0, 0, -1);
        Check.due("state", x.state(0), 3000);
        Check.due("travel", x.travel(0), 3000);
        x.tick(1);
        Check.due("no line went on", x.at(0, 0), 0);
        // Only where a tick ends counts: the arm goes over a box between two ends.
        x.unbox(2);
        x.box(2, 4, 0, 5, 1);
        x.joint(0, 1, 0, 3000, 3000);
        x.jog(0, 0);
        x.run();
        Check.due("it goes", x.tick(2), 1);
        Check.due("over it", x.state(0), 6000);
        x.stop();
        // An arm in a box may go out of it in one tick.
        x.jog(0, 4000);
        x.run();
        Check.due("it goes", x.tick(1), 1);
        Check.due("out of it", x.state(0), 7000);
    }

    private static void errorOfLine() {
        Check.promise(21);
        ArmPendant x = begun(l(OUT, 0, 1), l(JUMP, 2, 0));
        Check.due("stopped", x.tick(1), 3);
        about("jump", x, 3, 1, 1, 3, 0, 2, 0, 0, -1);
        x = begun(l(OUT, 0, 1), l(CALL, 2, 0));
        Check.due("stopped", x.tick(1), 3);
        about("call", x, 3, 1, 1, 3, 0, 2, 0, 0, -1);
    }

    private static void errorOfLineForErrors() {
        Check.promise(21);
        ArmPendant x = begun(l(ON_ERROR, 9, 0), l(WAIT, 1, 0), l(CALL, 3, 0), l(GO, 9, 100));
        Check.due("told without an error", x.tick(1), 1);
        Check.due("the line for errors", x.about(8), 9);
        Check.due("stopped", x.tick(1), 3);
        about("as it is gone to", x, 3, 2, 3, 3, 1, 4, 0, 0, 9);
        x = begun(l(ON_ERROR, 2, 0), l(GO, 9, 100));
        Check.due("stopped", x.tick(1), 3);
        about("just behind the last", x, 3, 1, 1, 3, 0, 2, 0, 0, 2);
        x = begun(l(ON_ERROR, 1, 0), l(GO, 9, 100));
        Check.due("goes on", x.tick(1), 1);
        about("the last", x, 1, 1, 1, 1, 0, 2, 0, 0, -1);
    }

    /** 100 lines, and as many outs more as are told, and then behind the last line. */
    private static ArmPendant hundredLines(int more) {
        ArmPendant x = arm(l(ADD, 0, 1));
        for (int i = 1; i <= 39; i++) {
            x.line(OUT, 1, 1);
        }
        x.line(IF_BELOW, 0, 2);
        x.line(JUMP, 43, 0);
        x.line(JUMP, 0, 0);
        for (int i = 0; i < 16 + more; i++) {
            x.line(OUT, i == 16 ? 3 : 2, 1);
        }
        return x;
    }

    private static void errorOfManyLines() {
        Check.promise(21);
        ArmPendant x = hundredLines(0);
        x.run();
        Check.due("100 lines", x.tick(1), 2);
        about("100 lines", x, 2, 1, 59, 0, 0, 100, 0, 0, -1);
        x = hundredLines(1);
        x.run();
        Check.due("101 lines", x.tick(1), 3);
        about("101 lines", x, 3, 1, 59, 4, 0, 100, 0, 0, -1);
        Check.due("the 101st is not done", x.at(0, 3), 0);
        // A line that would take time, and one that would end, are lines too.
        for (int op : new int[] {WAIT, END}) {
            x = hundredLines(0);
            x.line(op, 1, 0);
            x.run();
            Check.due("101 lines", x.tick(1), 3);
            about("101 lines", x, 3, 1, 59, 4, 0, 100, 0, 0, -1);
        }
    }

    private static void manyLinesAreCountedByTick() {
        Check.promise(21);
        // With a line for errors the program goes on, and counts anew.
        ArmPendant x = begun(l(ON_ERROR, 2, 0), l(JUMP, 1, 0), l(ADD, 1, 1), l(JUMP, 2, 0));
        Check.due("goes on", x.tick(1), 1);
        about("error 4", x, 1, 1, 2, 4, 0, 100, 0, 0, -1);
        Check.due("stops", x.tick(1), 3);
        about("error 4 again", x, 3, 2, 2, 4, 0, 200, 0, 0, -1);
        Check.due("register", x.at(1, 1), 50);
    }

    private static void errorOfManyCalls() {
        Check.promise(21);
        ArmPendant x = begun(l(ADD, 0, 1), l(CALL, 0, 0));
        Check.due("stopped", x.tick(1), 3);
        about("the 13th call", x, 3, 1, 1, 5, 12, 26, 0, 0, -1);
        Check.due("register", x.at(1, 0), 13);
        x = begun(l(ADD, 0, 1), l(IF_BELOW, 0, 13), l(CALL, 9, 0), l(CALL, 0, 0));
        Check.due("stopped", x.tick(1), 3);
        about("no line is ahead of 12 put by", x, 3, 1, 2, 3, 12, 39, 0, 0, -1);
    }

    private static void lineForErrors() {
        Check.promise(21);
        ArmPendant x = begun(l(ON_ERROR, 4, 0), l(CALL, 2, 0), l(CALL, 3, 0), l(GO, 9, 100), l(OUT, 1, 1), l(WAIT, 1, 0),
                l(GO, 9, 100));
        Check.due("goes on", x.tick(1), 1);
        about("in the next tick", x, 1, 1, 4, 1, 0, 4, 0, 0, -1);
        Check.due("not yet", x.at(0, 1), 0);
        x.tick(1);
        Check.due("the line for errors", x.at(0, 1), 1);
        about("behind it", x, 1, 2, 6, 1, 0, 6, 0, 0, -1);
        Check.due("no line is for errors", x.tick(1), 3);
        about("stopped", x, 3, 3, 6, 1, 0, 7, 0, 0, -1);
        // The error that was last stays told where a run ends, and the latest line for errors is the one.
        x = begun(l(ON_ERROR, 0, 0), l(ON_ERROR, 4, 0), l(JUMP, 59, 0), l(WAIT, 9, 0), l(END, 0, 0));
        Check.due("ended", x.tick(2), 2);
        about("ended", x, 2, 2, 4, 3, 0, 4, 0, 0, -1);
        // A go that errs in a later tick is over.
        x = arm(l(ON_ERROR, 2, 0), l(GO, 1, 100), l(WAIT, 5, 0));
        x.joint(0, 0, 100, 100000, 100000);
        x.jog(0, 300000);
        x.teach(1);
        x.jog(0, 0);
        x.box(0, -10000, 300, 0, 10000);
        x.run();
        x.tick(2);
        about("under way", x, 1, 2, 1, 0, 0, 2, 1, 1, 2);
        x.tick(1);
        about("in a box", x, 1, 3, 2, 2, 0, 2, 0, 0, -1);
        Check.due("state", x.state(0), 200000);
        x.tick(1);
        about("the line for errors", x, 1, 4, 2, 2, 0, 3, 4, 0, -1);
    }

    private static void stopByHand() {
        Check.promise(20);
        ArmPendant x = arm(l(ON_ERROR, 3, 0), l(CALL, 2, 0), l(GO, 1, 100), l(END, 0, 0));
        Check.due("none goes", x.stop(), ArmPendant.NO);
        x.run();
        x.tick(2);
        about("under way", x, 1, 2, 2, 0, 1, 3, 3, 1, 3);
        Check.due("stop", x.stop(), 1);
        about("stopped", x, 3, 2, 2, 9, 1, 3, 0, 0, 3);
        Check.due("none goes", x.stop(), ArmPendant.NO);
        Check.due("it stays", x.tick(9), 3);
        Check.due("state", x.state(0), 20);
        x = begun(l(WAIT, 5, 0));
        x.tick(2);
        x.stop();
        about("a wait", x, 3, 2, 0, 9, 0, 1, 0, 0, -1);
        x = begun();
        Check.due("ahead of its first tick", x.stop(), 1);
        about("stopped", x, 3, 0, 0, 9, 0, 0, 0, 0, -1);
        x.run();
        x.tick(1);
        Check.due("ended", x.stop(), ArmPendant.NO);
    }

    private static void aboutRefuses() {
        Check.promise(21);
        ArmPendant x = new ArmPendant();
        Check.due("what", x.about(-1), ArmPendant.BAD);
        Check.due("what", x.about(9), ArmPendant.BAD);
        Check.due("what", x.about(Integer.MAX_VALUE), ArmPendant.BAD);
        about("none began", x, 0, 0, 0, 0, 0, 0, 0, 0, -1);
    }

    private static void atAnswers() {
        Check.promise(22);
        ArmPendant x = begun(l(OUT, 1, 1), l(ADD, 2, -6), l(OUT, 3, 1), l(OUT, 3, 0));
        x.input(4, true);
        x.tick(1);
        for (int i = 0; i < 8; i++) {
            Check.due("out", x.at(0, i), i == 1 ? 1 : 0);
            Check.due("register", x.at(1, i), i == 2 ? -6 : 0);
            Check.due("input", x.at(2, i), i == 4 ? 1 : 0);
        }
        for (int what = 0; what <= 2; what++) {
            Check.due("i", x.at(what, -1), -2000000);
            Check.due("i", x.at(what, 8), -2000000);
        }
        Check.due("what", x.at(-1, 0), -2000000);
        Check.due("what", x.at(3, 0), -2000000);
    }

    private static void travelAddsUp() {
        Check.promise(23);
        ArmPendant x = begun(l(GO, 1, 100), l(GO, 0, 100), l(GO, 1, 100));
        x.tick(12);
        Check.due("there, back, and some", x.travel(0), 120);
        Check.due("the others", x.travel(1), 0);
        x.stop();
        x.jog(0, 50);
        Check.due("not by hand", x.travel(0), 120);
        x.run();
        x.tick(200);
        Check.due("it stays in the next run", x.travel(0), 220);
        Check.due("j", x.travel(-1), -1);
        Check.due("j", x.travel(4), -1);
    }
}
