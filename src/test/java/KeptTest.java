/** Promises 24 to 28: states kept, gone back to and replayed, counts and the digest. */
public final class KeptTest extends Programs {
    public static void main(String[] args) {
        keepRefuses();
        keepHoldsAll();
        keepHoldsWhatIsUnderWay();
        keepIsNoLink();
        backRefuses();
        backLeavesTheArm();
        backToFewerLines();
        replayFindsTheTick();
        replayOfStates();
        replayOfRegisters();
        replayGoesAway();
        replayOfRunsThatDoNotGo();
        replayHasItsOwnTime();
        replayRefuses();
        countAnswers();
        digestIsTheSum();
        Check.finish();
    }

    private static void keepRefuses() {
        Check.promise(24);
        ArmPendant x = new ArmPendant();
        Check.due("k", x.keep(-1), ArmPendant.BAD);
        Check.due("k", x.keep(4), ArmPendant.BAD);
        Check.due("k", x.keep(Integer.MIN_VALUE), ArmPendant.BAD);
        for (int k = 0; k < 4; k++) {
            Check.due("nothing there", x.back(k), ArmPendant.NO);
            Check.due("keep", x.keep(k), 1);
            Check.due("back", x.back(k), 1);
        }
    }

    private static ArmPendant busy() {
        ArmPendant x = arm(l(ON_ERROR, 5, 0), l(CALL, 2, 0), l(OUT, 3, 1), l(ADD, 6, 11), l(GO, 9, 1),
                l(ON_ERROR, 0, 0), l(OUT, 4, 1), l(CALL, 8, 0), l(SEARCH, 1, 0), l(GO, 1, 100), l(OUT, 5, 1),
                l(GO, 0, 50), l(RETURN, 0, 0));
        x.script(5, 1, true);
        x.input(7, true);
        x.run();
        x.tick(3);
        return x;
    }

    private static void keepHoldsAll() {
        Check.promise(24);
        ArmPendant x = busy();
        long then = x.digest();
        Check.due("keep", x.keep(2), 1);
        Check.due("keep changes nothing", x.digest(), then);
        x.input(7, false);
        x.input(0, true);
        x.tick(4);
        x.stop();
        x.jog(2, 9);
        x.run();
        x.tick(1);
        Check.due("back", x.back(2), 1);
        Check.due("all is as it was", x.digest(), then);
        Check.due("it goes", x.about(0), 1);
        Check.due("input", x.at(2, 7), 1);
        Check.due("input", x.at(2, 0), 0);
        Check.due("out", x.at(0, 4), 1);
        Check.due("register", x.at(1, 6), 11);
        Check.due("put by", x.about(4), 1);
        Check.due("travel", x.travel(0), x.state(0));
        Check.due("state", x.state(2), 0);
        // It is kept still.
        x.tick(9);
        Check.due("back again", x.back(2), 1);
        Check.due("all is as it was", x.digest(), then);
    }

    private static void keepHoldsWhatIsUnderWay() {
        Check.promise(24);
        for (int ahead = 0; ahead <= 14; ahead++) {
            ArmPendant x = busy();
            if (ahead > 0) {
                x.tick(ahead);
            }
            x.keep(0);
            long[] due = new long[30];
            for (int t = 0; t < due.length; t++) {
                x.tick(1);
                due[t] = x.digest();
            }
            x.back(0);
            for (int t = 0; t < due.length; t++) {
                x.tick(1);
                Check.due("behind " + ahead + " and " + t, x.digest(), due[t]);
            }
        }
        // The lines put by are kept, not how many alone.
        ArmPendant y = arm(l(IF_INPUT, 0, 1), l(CALL, 4, 0), l(CALL, 4, 0), l(WAIT, 1, 0), l(WAIT, 2, 0), l(RETURN, 0, 0));
        y.run();
        y.tick(1);
        y.keep(0);
        y.stop();
        y.input(0, true);
        y.run();
        y.tick(1);
        y.back(0);
        y.tick(2);
        Check.due("back to the line put by", y.about(2), 4);
        Check.due("by the other call", y.about(5), 6);
        Check.due("put by", y.about(4), 1);
        // The error that was last is kept.
        y = arm(l(ON_ERROR, 2, 0), l(GO, 9, 1), l(WAIT, 9, 0));
        y.run();
        y.tick(2);
        y.keep(0);
        y.stop();
        y.back(0);
        Check.due("the error", y.about(3), 1);
        // A search that no go has used yet is kept.
        ArmPendant x = arm(l(SEARCH, 2, 0), l(WAIT, 1, 0), l(GO, 1, 100), l(WAIT, 7, 0));
        x.run();
        x.tick(1);
        x.keep(1);
        x.stop();
        x.run();
        x.stop();
        x.back(1);
        x.input(2, true);
        x.tick(1);
        Check.due("the go is over at once", x.about(2), 3);
    }

    private static void keepIsNoLink() {
        Check.promise(24);
        ArmPendant x = arm(l(GO, 1, 100));
        x.run();
        x.tick(2);
        x.keep(0);
        x.keep(1);
        x.tick(1);
        x.keep(1);
        x.back(0);
        Check.due("0", x.state(0), 20);
        x.back(1);
        Check.due("1 was kept anew", x.state(0), 30);
        x.tick(1);
        x.back(1);
        Check.due("1", x.state(0), 30);
        x.back(0);
        Check.due("0", x.state(0), 20);
    }

    private static void backRefuses() {
        Check.promise(25);
        ArmPendant x = new ArmPendant();
        Check.due("k", x.back(-1), ArmPendant.BAD);
        Check.due("k", x.back(4), ArmPendant.BAD);
        Check.due("nothing there", x.back(3), ArmPendant.NO);
        x.jog(3, 100);
        x.keep(3);
        x.jog(3, 0);
        x.limits(3, -5, 99);
        long then = x.digest();
        Check.due("beyond HIGH", x.back(3), ArmPendant.NO);
        Check.due("nothing changed", x.digest(), then);
        x.limits(3, -5, 100);
        Check.due("at HIGH", x.back(3), 1);
        x.limits(3, 100, 200);
        Check.due("at LOW", x.back(3), 1);
        x.jog(3, 101);
        x.limits(3, 101, 200);
        Check.due("below LOW", x.back(3), ArmPendant.NO);
        x.run();
        x.limits(3, 0, 200);
        Check.due("below LOW in a run", x.back(3), ArmPendant.NO);
        x.stop();
        x.limits(3, 0, 200);
        x.run();
        Check.due("in a run", x.back(3), 1);
        Check.due("none began", x.about(0), 0);
    }

    private static void backLeavesTheArm() {
        Check.promise(25);
        ArmPendant x = arm(l(WAIT, 2, 0));
        x.keep(0);
        x.joint(1, 0, 7, 1, 1);
        x.teach(9);
        x.line(WAIT, 3, 0);
        x.script(4, 4, true);
        x.box(1, 0, 1, 5, 5);
        x.limits(2, 0, 0);
        x.back(0);
        Check.due("lines", x.count(0), 2);
        Check.due("scripts", x.count(1), 1);
        Check.due("boxes", x.count(2), 1);
        Check.due("poses", x.count(3), 3);
        Check.due("the joint", x.tip(0), Double.doubleToLongBits(307.0));
        Check.due("the limits", x.jog(2, 1), -2000000);
        // A motion that is kept stays as it began.
        x = arm(l(GO, 1, 100));
        x.run();
        x.tick(2);
        x.keep(0);
        x.stop();
        x.jog(0, 500);
        x.teach(1);
        x.joint(0, 0, 100, 1, 1);
        x.back(0);
        x.tick(1);
        Check.due("it goes on as it began", x.state(0), 30);
        Check.due("its ticks", x.about(6), 2);
    }

    private static void backToFewerLines() {
        Check.promise(25);
        ArmPendant x = arm(l(WAIT, 1, 0), l(CALL, 2, 0), l(ON_ERROR, 3, 0), l(GO, 1, 100), l(WAIT, 1, 0), l(WAIT, 1, 0));
        x.run();
        x.tick(4);
        x.keep(0);
        x.stop();
        x.clear();
        x.line(WAIT, 1, 0);
        x.back(0);
        Check.due("line", x.about(2), 3);
        Check.due("the go goes on", x.tick(2), 1);
        Check.due("the next is not there", x.tick(1), 2);
        Check.due("as many as there are", x.about(2), 1);
        Check.due("put by", x.about(4), 1);
        Check.due("line for errors", x.about(8), 3);
    }

    private static void replayFindsTheTick() {
        Check.promise(26);
        ArmPendant x = arm(l(WAIT, 3, 0), l(IF_INPUT, 0, 1), l(OUT, 0, 1), l(WAIT, 50, 0));
        x.run();
        x.keep(0);
        x.input(0, true);
        Check.due("the fourth", x.replay(0, 100), 4);
        Check.due("the fourth of four", x.replay(0, 4), 4);
        Check.due("none of three", x.replay(0, 3), ArmPendant.NONE);
        x.tick(3);
        Check.due("one is ahead", x.replay(0, 9), 4);
        x.keep(1);
        x.input(0, false);
        Check.due("the first", x.replay(1, 1), 1);
        x.tick(1);
        Check.due("at once", x.replay(1, 1), 0);
        x.keep(2);
        x.input(0, true);
        x.input(5, true);
        Check.due("inputs alone do not count", x.replay(2, 10), ArmPendant.NONE);
    }

    private static void replayOfStates() {
        Check.promise(26);
        ArmPendant x = arm(l(WAIT, 1, 0), l(SEARCH, 3, 0), l(GO, 1, 100), l(WAIT, 9, 0));
        x.run();
        x.keep(3);
        x.script(4, 3, true);
        Check.due("the same script for both", x.replay(3, 20), ArmPendant.NONE);
        x.tick(1);
        x.keep(3);
        x.input(3, true);
        Check.due("one goes", x.replay(3, 20), 1);
        x.input(3, false);
        Check.due("both go", x.replay(3, 20), ArmPendant.NONE);
        x.stop();
        x.jog(3, 1);
        Check.due("at once", x.replay(3, 20), 0);
    }

    private static void replayOfRegisters() {
        Check.promise(26);
        ArmPendant x = arm(l(IF_INPUT, 1, 0), l(ADD, 7, 1), l(WAIT, 1, 0), l(JUMP, 0, 0));
        x.script(6, 1, false);
        x.run();
        x.tick(3);
        x.keep(0);
        x.input(1, true);
        Check.due("the first", x.replay(0, 5), 1);
        x.tick(1);
        Check.due("at once", x.replay(0, 5), 0);
        x.keep(0);
        x.input(1, false);
        Check.due("one more", x.replay(0, 5), 1);
    }

    private static void replayGoesAway() {
        Check.promise(26);
        ArmPendant x = busy();
        x.keep(0);
        x.tick(1);
        x.keep(1);
        long then = x.digest();
        Check.due("at once", x.replay(0, 50), 0);
        Check.due("none", x.replay(1, 50), ArmPendant.NONE);
        Check.due("gone again", x.digest(), then);
        x.back(1);
        Check.due("what is kept too", x.digest(), then);
        x.tick(40);
        x.back(1);
        Check.due("what is kept too", x.digest(), then);
    }

    private static void replayOfRunsThatDoNotGo() {
        Check.promise(26);
        ArmPendant x = arm(l(WAIT, 2, 0), l(GO, 1, 100));
        x.keep(0);
        Check.due("none goes", x.replay(0, 100), ArmPendant.NONE);
        x.run();
        Check.due("one goes", x.replay(0, 100), 3);
        x.keep(1);
        x.stop();
        Check.due("one is stopped", x.replay(1, 100), 3);
        Check.due("one is stopped", x.replay(1, 2), ArmPendant.NONE);
        Check.due("both stay", x.replay(0, 100), ArmPendant.NONE);
    }

    private static void replayHasItsOwnTime() {
        Check.promise(26);
        ArmPendant x = arm(l(IF_INPUT, 1, 1), l(JUMP, 3, 0), l(OUT, 2, 1), l(WAIT, 1, 0), l(JUMP, 0, 0));
        x.script(5, 1, true);
        x.run();
        x.tick(1);
        x.keep(0);
        x.tick(1);
        // What is now comes to tick 5 behind 3 ticks, what is kept behind 4.
        Check.due("each by its own time", x.replay(0, 10), 3);
        Check.due("not before", x.replay(0, 2), ArmPendant.NONE);
    }

    private static void replayRefuses() {
        Check.promise(26);
        ArmPendant x = new ArmPendant();
        Check.due("k", x.replay(-1, 1), ArmPendant.BAD);
        Check.due("k", x.replay(4, 1), ArmPendant.BAD);
        Check.due("n", x.replay(0, 0), ArmPendant.BAD);
        Check.due("n", x.replay(0, 101), ArmPendant.BAD);
        Check.due("nothing there", x.replay(0, 1), ArmPendant.NO);
        x.jog(0, 6);
        x.keep(0);
        Check.due("n 100", x.replay(0, 100), ArmPendant.NONE);
        x.jog(0, 0);
        x.limits(0, -5, 5);
        Check.due("beyond HIGH", x.replay(0, 1), ArmPendant.NO);
        Check.due("BAD is ahead of NO", x.replay(0, 101), ArmPendant.BAD);
    }

    private static void countAnswers() {
        Check.promise(27);
        ArmPendant x = new ArmPendant();
        x.line(1, 1, 1);
        x.script(1, 1, true);
        x.script(1, 1, true);
        x.box(0, 0, 1, 2, 3);
        x.box(1, 0, 1, 2, 3);
        x.box(3, 0, 1, 2, 3);
        for (int k = 12; k < 16; k++) {
            x.teach(k);
        }
        for (int what = 0; what <= 3; what++) {
            Check.due("count", x.count(what), what + 1);
        }
        Check.due("what", x.count(-1), ArmPendant.BAD);
        Check.due("what", x.count(4), ArmPendant.BAD);
    }

    private static void digestIsTheSum() {
        Check.promise(28);
        ArmPendant x = new ArmPendant();
        Check.due("a new one", x.digest(), sum(x));
        x = busy();
        x.box(2, 500, 0, 501, 1);
        Check.due("a busy one", x.digest(), sum(x));
        x.jog(1, -7);
        x.stop();
        Check.due("a stopped one", x.digest(), sum(x));
        long then = x.digest();
        Check.due("it changes nothing", x.digest(), then);
    }
}
