/** Sentences of the document that name a boundary case, in its order; RangeTest has those of each number alone. */
public final class EdgeTest extends Programs {
    private static final int LEAST = Integer.MIN_VALUE;
    private static final int MOST = Integer.MAX_VALUE;

    public static void main(String[] args) {
        lengthsAtTheirEnds();
        slidesAtTheirEnds();
        turnsBeyondATurn();
        slidesDoNotTurn();
        sinesWhereTheirRulesChange();
        eachSineOfATurn();
        pacesAtTheirEnds();
        waysOfOne();
        ticksOfEvenAndOddNumber();
        motionOfNoTicks();
        motionsEndAtThePose();
        eachBoxIsLookedAt();
        boxAtTheFirstAndTheLastTick();
        boxIsNotLookedAtWithoutATick();
        poseAtTheEndsOfLimits();
        waitsAtTheirEnds();
        waitOfNoTicksIsNothingElse();
        outsOnAndOff();
        skipsOfEachInput();
        skipByRegistersAtTheirEnds();
        registersWrapBothWays();
        theLastLineThatMayBe();
        linesAreGoneToAtTheEnds();
        twelvePutBy();
        searchAtTheFirstAndTheLastTick();
        searchOfEachInput();
        searchIsLookedAtInEachTick();
        searchEndsAGoInABox();
        goOfASearchIsNoLineOfItsTick();
        theHundredthLine();
        eachErrorWithALineForErrors();
        eachErrorWithoutALineForErrors();
        endKeepsWhatIsPutBy();
        scriptsOfTheFirstAndTheLastTick();
        scriptsWithoutARun();
        ticksEndEarly();
        travelBeyondAnInt();
        jogBetweenRunsIsWhereTheNextBegins();
        keptAtEachPlace();
        replayAtItsEnds();
        replayOfEachSignal();
        digestWraps();
        Check.finish();
    }

    private static long bits(double value) {
        return Double.doubleToLongBits(value);
    }

    /** Joint 0 slides along x from 0; it can go to any state in just one tick, if that is 100000 or less. */
    private static ArmPendant slider() {
        ArmPendant x = new ArmPendant();
        for (int j = 1; j < 4; j++) {
            x.joint(j, 0, 0, 1, 1);
        }
        x.joint(0, 1, 0, 100000, 100000);
        return x;
    }

    private static void taught(ArmPendant x, int k, int j, int state) {
        int was = x.jog(j, state);
        x.teach(k);
        x.jog(j, was);
    }

    // ---- 1 the arm

    private static void lengthsAtTheirEnds() {
        Check.promise(2);
        ArmPendant x = new ArmPendant();
        for (int j = 0; j < 4; j++) {
            x.joint(j, 0, 0, 1, 1);
        }
        Check.due("x of no length", x.tip(0), 0);
        Check.due("y of no length", x.tip(1), 0);
        for (int j = 0; j < 4; j++) {
            x.joint(j, 0, 1000, 1, 1);
            Check.due("x of joints up to " + j, x.tip(0), bits(1000.0 * (j + 1)));
        }
        x.jog(0, -250000);
        Check.due("y of the longest", x.tip(1), bits(-4000.0));
    }

    private static void slidesAtTheirEnds() {
        Check.promise(6);
        for (int side = -1; side <= 1; side += 2) {
            ArmPendant x = new ArmPendant();
            for (int j = 0; j < 4; j++) {
                x.joint(j, 1, 1000, 1, 1);
                x.limits(j, -1000000, 1000000);
                x.jog(j, side * 1000000);
            }
            Check.due("x of slides", x.tip(0), bits(side < 0 ? 0.0 : 8000.0));
            x.joint(0, 1, 0, 1, 1);
            Check.due("x of a slide without length", x.tip(0), bits(side < 0 ? -1000.0 : 7000.0));
            Check.due("y of slides", x.tip(1), 0);
        }
    }

    private static void turnsBeyondATurn() {
        Check.promise(6);
        for (int side = -1; side <= 1; side += 2) {
            ArmPendant x = new ArmPendant();
            for (int j = 0; j < 4; j++) {
                x.limits(j, -1000000, 1000000);
                x.jog(j, side * 1000000);
            }
            Check.due("x of whole turns", x.tip(0), bits(400.0));
            Check.due("y of whole turns", x.tip(1), 0);
            x.jog(3, side * 750000);
            Check.due("x of a quarter less", x.tip(0), bits(300.0));
            Check.due("y of a quarter less", x.tip(1), bits(side * -100.0));
            x.jog(1, side * 999999);
            x.jog(2, side * 999999);
            double y = 0.0 + 100.0 * PlainPendant.sine(side * 1000000);
            y = y + 100.0 * PlainPendant.sine(side * 1999999);
            y = y + 100.0 * PlainPendant.sine(side * 2999998);
            y = y + 100.0 * PlainPendant.sine(side * 3749998);
            Check.due("y of nearly whole turns", x.tip(1), bits(y));
        }
    }

    private static void slidesDoNotTurn() {
        Check.promise(6);
        ArmPendant x = new ArmPendant();
        x.joint(0, 1, 100, 1, 1);
        x.joint(2, 1, 100, 1, 1);
        x.jog(0, 250000);
        x.jog(1, 250000);
        x.jog(2, 250000);
        Check.due("x", x.tip(0), bits(350.0));
        Check.due("y", x.tip(1), bits(100.0 + 350.0 + 100.0));
    }

    private static void sinesWhereTheirRulesChange() {
        Check.promise(7);
        ArmPendant x = new ArmPendant();
        long eighth = 4604544271217739786L;
        long beyond = 4604544311235611860L;
        long below = Long.MIN_VALUE;
        int[] ups = {125000, 375000, -625000, -875000, 1125000};
        int[] ins = {125001, 374999, -625001, -874999, 1125001};
        for (int i = 0; i < ups.length; i++) {
            Check.due("p is 125000 at " + ups[i], x.sine(ups[i]), eighth);
            Check.due("p is 125001 at " + ins[i], x.sine(ins[i]), beyond);
            Check.due("below 0 at " + -ups[i], x.sine(-ups[i]), eighth | below);
            Check.due("below 0 at " + -ins[i], x.sine(-ins[i]), beyond | below);
        }
        long least = 4529031901805000149L;
        for (int turn = -2000000; turn <= 2000000; turn += 1000000) {
            Check.due("0 at " + turn, x.sine(turn), 0);
            Check.due("0, and not the one below 0, at a half of " + turn, x.sine(turn + 500000), 0);
            Check.due("1 at a quarter of " + turn, x.sine(turn + 250000), bits(1.0));
            Check.due("-1 at three of " + turn, x.sine(turn + 750000), bits(-1.0));
            Check.due("p is 1", x.sine(turn + 1), least);
            Check.due("p is 1 for an odd q", x.sine(turn + 499999), least);
            Check.due("p is 1 for q 2", x.sine(turn + 500001), least | below);
            Check.due("p is 1 for q 3", x.sine(turn + 999999), least | below);
            Check.due("249999 is as 250001", x.sine(turn + 249999), x.sine(turn + 250001));
            Check.due("749999 is as 750001", x.sine(turn + 749999), x.sine(turn + 750001));
        }
        Check.due("the greatest u", x.sine(MOST), x.sine(483647));
        Check.due("the least u", x.sine(LEAST), x.sine(516352));
        Check.due("the greatest u but 1000000", x.sine(MOST - 1000000), x.sine(MOST));
    }

    /** All u of a turn: to the last bit as the document writes them, each act rounded. */
    private static void eachSineOfATurn() {
        Check.promise(7);
        ArmPendant x = new ArmPendant();
        int unlike = 0;
        for (int u = 0; u < 1000000; u++) {
            if (u % 500 == 0) {
                x = new ArmPendant();
            }
            unlike += x.sine(u) == bits(PlainPendant.sine(u)) ? 0 : 1;
        }
        Check.due("sines of a turn that are not as written", unlike, 0);
    }

    // ---- 2 motions

    private static void pacesAtTheirEnds() {
        Check.promise(12);
        ArmPendant x = slider();
        taught(x, 0, 0, 300);
        int[][] paceShareTicks = {
            {1, 1, 300}, {1, 100, 300}, {99, 1, 300}, {100, 1, 300}, {199, 1, 300}, {200, 1, 150},
            {100000, 1, 1}, {299, 100, 2}, {300, 100, 1}, {302, 99, 2}, {304, 99, 1}, {2, 99, 300}, {2, 100, 150},
        };
        for (int[] p : paceShareTicks) {
            x.joint(0, 1, 0, p[0], 100000);
            Check.due("pace " + p[0] + " share " + p[1], x.plan(0, p[1]), p[2]);
        }
        x.joint(0, 1, 0, 100000, 1);
        // 1 + 2 + .. + 17 + 16 + .. + 1 are 289: the 33 ticks of that are too few.
        Check.due("the least rise", x.plan(0, 100), 34);
        x.joint(0, 1, 0, 100000, 100000);
        Check.due("the greatest", x.plan(0, 100), 1);
    }

    private static void waysOfOne() {
        Check.promise(12);
        ArmPendant x = slider();
        for (int way = -1; way <= 1; way++) {
            taught(x, 0, 0, way);
            for (int share = 1; share <= 100; share += 99) {
                Check.due("ticks of way " + way, x.plan(0, share), way == 0 ? 0 : 1);
            }
        }
        for (int pace : new int[] {1, 2, 100000}) {
            x.joint(0, 1, 0, pace, pace);
            Check.due("a step just so long", x.jog(0, 0), 0);
            taught(x, 0, 0, pace);
            Check.due("as far as one tick goes", x.plan(0, 100), 1);
            taught(x, 0, 0, pace + 1);
            Check.due("one more", x.plan(0, 100), 2);
        }
    }

    private static void ticksOfEvenAndOddNumber() {
        Check.promise(13);
        ArmPendant x = slider();
        x.joint(0, 1, 0, 100000, 10);
        int[][] gone = {{0, 10}, {0, 10, 20}, {0, 10, 30, 40}, {0, 10, 30, 50, 60}, {0, 10, 30, 60, 80, 90}};
        for (int[] row : gone) {
            int last = row.length - 1;
            taught(x, 0, 0, row[last]);
            Check.due("ticks", x.plan(0, 100), last);
            for (int t = 0; t <= last; t++) {
                Check.due("behind " + t + " of " + last, x.along(0, 100, t, 0), row[t]);
            }
            Check.due("behind one more", x.along(0, 100, last + 1, 0), -2000000);
        }
    }

    private static void motionOfNoTicks() {
        Check.promise(13);
        ArmPendant x = new ArmPendant();
        for (int j = 0; j < 4; j++) {
            x.jog(j, j - 2);
        }
        x.teach(0);
        Check.due("all are alike", x.plan(0, 1), 0);
        for (int j = 0; j < 4; j++) {
            Check.due("behind 0 ticks", x.along(0, 1, 0, j), j - 2);
            Check.due("behind 1 tick", x.along(0, 1, 1, j), -2000000);
        }
        for (int j = 0; j < 4; j++) {
            int was = x.jog(j, 5);
            Check.due("one is unlike", x.plan(0, 1), 1);
            x.jog(j, was);
        }
    }

    /** What the leader can go is mostly more than its way: the end is at the pose all the same. */
    private static void motionsEndAtThePose() {
        Check.promise(13);
        for (int way = 1; way <= 200; way += 3) {
            ArmPendant x = new ArmPendant();
            x.joint(2, 0, 100, 17, 5);
            x.jog(0, 3);
            x.jog(1, -way / 2);
            x.jog(2, way);
            x.teach(0);
            for (int j = 0; j < 4; j++) {
                x.jog(j, 0);
            }
            int ticks = x.plan(0, 100);
            int[] due = {3, -way / 2, way, 0};
            for (int j = 0; j < 4; j++) {
                Check.due("begins", x.along(0, 100, 0, j), 0);
                Check.due("ends", x.along(0, 100, ticks, j), due[j]);
            }
        }
    }

    // ---- 3 the program

    private static void eachBoxIsLookedAt() {
        Check.promise(8);
        for (int k = 0; k < 4; k++) {
            ArmPendant x = slider();
            taught(x, 0, 0, 5000);
            x.line(GO, 0, 100);
            x.box(k, 5, 0, 6, 1);
            x.run();
            Check.due("box " + k + " stops it", x.tick(1), 3);
            Check.due("the state stays", x.state(0), 0);
            x.unbox(k);
            x.run();
            Check.due("it goes", x.tick(1), 1);
            Check.due("the state", x.state(0), 5000);
        }
    }

    private static void boxAtTheFirstAndTheLastTick() {
        Check.promise(19);
        for (int at = 1; at <= 5; at++) {
            ArmPendant x = slider();
            x.joint(0, 1, 0, 1000, 1000);
            taught(x, 0, 0, 5000);
            x.line(GO, 0, 100);
            x.box(0, at, -1, 10000, 1);
            x.run();
            Check.due("stopped", x.tick(200), 3);
            Check.due("by a box at " + at, x.about(3), 2);
            Check.due("in its tick", x.about(1), at);
            Check.due("one ahead of it", x.state(0), 1000 * at - 1000);
            Check.due("went", x.travel(0), 1000 * at - 1000);
            Check.due("nothing is left", x.about(6), 0);
            Check.due("the go is over", x.about(7), 0);
        }
    }

    private static void boxIsNotLookedAtWithoutATick() {
        Check.promise(19);
        ArmPendant x = slider();
        x.jog(0, 5000);
        x.teach(0);
        x.jog(0, 0);
        x.box(0, 4, -1, 6, 1);
        x.jog(0, 5000);
        x.line(GO, 0, 100);
        x.line(WAIT, 1, 0);
        x.run();
        Check.due("a go of 0 ticks and a wait in a box", x.tick(2), 2);
        Check.due("no error", x.about(3), 0);
    }

    private static void poseAtTheEndsOfLimits() {
        Check.promise(21);
        for (int j = 0; j < 4; j++) {
            for (int side = -1; side <= 1; side += 2) {
                ArmPendant x = new ArmPendant();
                taught(x, 0, j, side * 50);
                x.line(GO, 0, 100);
                x.limits(j, -50, 50);
                x.run();
                Check.due("to just LOW or HIGH", x.tick(3), 2);
                Check.due("it is there", x.state(j), side * 50);
                x.jog(j, 0);
                x.limits(j, side < 0 ? -49 : -50, side < 0 ? 50 : 49);
                x.run();
                Check.due("one beyond", x.tick(3), 3);
                Check.due("error", x.about(3), 1);
                Check.due("it stays", x.state(j), 0);
            }
        }
    }

    private static void waitsAtTheirEnds() {
        Check.promise(19);
        ArmPendant x = begun(l(WAIT, 1000, 0), l(OUT, 0, 1));
        for (int i = 0; i < 4; i++) {
            x.tick(200);
        }
        x.tick(199);
        Check.due("the last is left", x.about(6), 1);
        Check.due("under way", x.about(2), 0);
        x.tick(1);
        Check.due("none is left", x.about(6), 0);
        Check.due("the next line", x.about(2), 1);
        Check.due("goes", x.about(0), 1);
        Check.due("not yet", x.at(0, 0), 0);
        Check.due("ends", x.tick(1), 2);
        Check.due("tick", x.about(1), 1001);
        x = begun(l(WAIT, 1, 0));
        Check.due("a wait of one", x.tick(1), 1);
        Check.due("is over", x.about(2), 1);
    }

    private static void waitOfNoTicksIsNothingElse() {
        Check.promise(19);
        for (int on = 0; on <= 1; on++) {
            ArmPendant x = begun(l(OUT, 0, on), l(WAIT, 0, 1 - on), l(WAIT, 1, 1 - on), l(WAIT, 0, 1 - on));
            Check.due("goes", x.tick(1), 1);
            Check.due("out", x.at(0, 0), on);
            Check.due("lines", x.about(5), 3);
            Check.due("ends", x.tick(1), 2);
            Check.due("out", x.at(0, 0), on);
        }
    }

    private static void outsOnAndOff() {
        Check.promise(22);
        for (int i = 0; i < 8; i++) {
            ArmPendant x = begun(l(OUT, i, 0), l(WAIT, 1, 0), l(OUT, i, 1), l(OUT, i, 1), l(WAIT, 1, 0), l(OUT, i, 0));
            for (int t = 1; t <= 3; t++) {
                x.tick(1);
                for (int other = 0; other < 8; other++) {
                    Check.due("out " + other, x.at(0, other), other == i && t == 2 ? 1 : 0);
                }
            }
        }
    }

    private static void skipsOfEachInput() {
        Check.promise(19);
        for (int i = 0; i < 8; i++) {
            for (int b = 0; b <= 1; b++) {
                for (int on = 0; on <= 1; on++) {
                    ArmPendant x = arm(l(IF_INPUT, i, b), l(OUT, 0, 1), l(OUT, 1, 1));
                    for (int other = 0; other < 8; other++) {
                        x.input(other, (other == i) == (on == 1));
                    }
                    x.run();
                    x.tick(1);
                    Check.due("the next line is skipped", x.at(0, 0), b == on ? 0 : 1);
                    Check.due("just that", x.at(0, 1), 1);
                }
            }
        }
    }

    private static void skipByRegistersAtTheirEnds() {
        Check.promise(19);
        int[][] registerBSkips = {
            {0, 0, 0}, {0, 1, 1}, {0, -1, 0}, {-1, 0, 1}, {MOST, MOST, 0}, {MOST - 1, MOST, 1}, {MOST, LEAST, 0},
            {LEAST, MOST, 1}, {LEAST, LEAST, 0}, {LEAST, LEAST + 1, 1}, {0, LEAST, 0}, {0, MOST, 1},
        };
        for (int[] r : registerBSkips) {
            for (int i = 0; i < 8; i += 7) {
                ArmPendant x = begun(l(ADD, i, r[0]), l(IF_BELOW, i, r[1]), l(OUT, 0, 1), l(OUT, 1, 1));
                x.tick(1);
                Check.due(r[0] + " below " + r[1], 1 - x.at(0, 0), r[2]);
                Check.due("just the next line", x.at(0, 1), 1);
            }
        }
    }

    private static void registersWrapBothWays() {
        Check.promise(22);
        for (int i = 0; i < 8; i++) {
            ArmPendant x = begun(l(ADD, i, MOST), l(WAIT, 1, 0), l(ADD, i, 1), l(WAIT, 1, 0), l(ADD, i, -1), l(WAIT, 1, 0),
                    l(ADD, i, LEAST), l(WAIT, 1, 0), l(ADD, i, LEAST), l(ADD, i, LEAST), l(ADD, i, LEAST));
            int[] due = {MOST, LEAST, MOST, -1, MOST};
            for (int d : due) {
                x.tick(1);
                Check.due("register " + i, x.at(1, i), d);
            }
        }
    }

    /** LINE 59 is the last that there may be: gone to by JUMP, CALL and errors, and by itself. */
    private static void theLastLineThatMayBe() {
        Check.promise(19);
        for (int op : new int[] {JUMP, CALL, ON_ERROR}) {
            for (int lines = 59; lines <= 60; lines++) {
                ArmPendant x = arm(l(op, 59, 0), l(GO, 9, 1));
                for (int i = 2; i < lines; i++) {
                    x.line(OUT, 4, 1);
                }
                x.run();
                x.tick(2);
                Check.due("it is there", x.at(0, 4), lines == 60 ? 1 : 0);
                Check.due("ended, or stopped", x.about(0), lines == 60 ? 2 : 3);
                Check.due("error", x.about(3), lines == 59 ? 3 : op == ON_ERROR ? 1 : 0);
                Check.due("line", x.about(2), lines == 60 ? 60 : op == ON_ERROR ? 1 : 0);
            }
        }
    }

    private static void linesAreGoneToAtTheEnds() {
        Check.promise(19);
        // To itself, up to the 101st line of the tick.
        ArmPendant x = begun(l(JUMP, 0, 0));
        Check.due("to itself", x.tick(1), 3);
        Check.due("lines", x.about(5), 100);
        x = begun(l(JUMP, 1, 0), l(END, 0, 0));
        Check.due("to the last", x.tick(1), 2);
        Check.due("no error", x.about(3), 0);
        x = begun(l(CALL, 1, 0), l(END, 0, 0));
        Check.due("to the last", x.tick(1), 2);
        Check.due("put by", x.about(4), 1);
        for (int op : new int[] {JUMP, CALL}) {
            x = begun(l(OUT, 0, 1), l(op, 2, 0));
            Check.due("just behind the last", x.tick(1), 3);
            Check.due("error", x.about(3), 3);
            Check.due("line", x.about(2), 1);
            Check.due("none is put by", x.about(4), 0);
        }
    }

    /** Twelve calls are put by, and come back each to its own next line; a 13th errs. */
    private static void twelvePutBy() {
        Check.promise(21);
        for (int calls = 11; calls <= 13; calls++) {
            ArmPendant x = arm();
            for (int i = 0; i < calls; i++) {
                x.line(CALL, i < calls - 1 ? 3 * i + 3 : 3 * calls, 0);
                x.line(ADD, 0, i + 1);
                x.line(i == 0 ? END : RETURN, 0, 0);
            }
            x.line(ADD, 1, 1);
            x.line(RETURN, 0, 0);
            x.run();
            x.tick(1);
            boolean fits = calls <= 12;
            Check.due(calls + " calls end, or are stopped", x.about(0), fits ? 2 : 3);
            Check.due("by error", x.about(3), fits ? 0 : 5);
            Check.due("put by", x.about(4), fits ? 0 : 12);
            Check.due("line", x.about(2), fits ? 2 : 36);
            Check.due("the deepest", x.at(1, 1), fits ? 1 : 0);
            Check.due("came back to each", x.at(1, 0), fits ? calls * (calls + 1) / 2 : 0);
        }
    }

    private static void searchAtTheFirstAndTheLastTick() {
        Check.promise(19);
        for (int on = 1; on <= 6; on++) {
            ArmPendant x = arm(l(SEARCH, 2, 0), l(GO, 1, 100), l(WAIT, 100, 0));
            x.script(on, 2, true);
            x.run();
            x.tick(on - 1 > 0 ? on - 1 : 1);
            x.tick(on > 1 ? 1 : 2);
            Check.due("no tick of it goes from " + on + " on", x.state(0), 10 * (on - 1));
            x.tick(20);
            Check.due("none later too", x.state(0), 10 * (on - 1));
        }
    }

    private static void searchOfEachInput() {
        Check.promise(19);
        for (int i = 0; i < 8; i++) {
            ArmPendant x = arm(l(SEARCH, i, 0), l(GO, 1, 100), l(END, 0, 0));
            for (int other = 0; other < 8; other++) {
                x.input(other, other != i);
            }
            x.run();
            Check.due("the others do not end it", x.tick(2), 1);
            Check.due("it goes", x.state(0), 20);
            x.input(i, true);
            Check.due("input " + i + " does", x.tick(1), 2);
            Check.due("no more of it goes", x.state(0), 20);
            Check.due("line", x.about(2), 2);
        }
    }

    /** Only how the input is as a tick begins counts, and not how it was in between. */
    private static void searchIsLookedAtInEachTick() {
        Check.promise(19);
        ArmPendant x = begun(l(SEARCH, 2, 0), l(GO, 1, 100), l(WAIT, 100, 0));
        x.tick(1);
        x.input(2, true);
        x.input(2, false);
        x.tick(1);
        Check.due("on and off between", x.state(0), 20);
        x.script(3, 2, true);
        x.script(3, 2, false);
        x.tick(1);
        Check.due("on and off by scripts of one tick", x.state(0), 30);
        x.script(4, 2, true);
        x.script(5, 2, false);
        x.tick(2);
        Check.due("on in one tick", x.state(0), 30);
        Check.due("in the wait", x.about(2), 2);
        // An input that was on when the go was searched for, and is off when it begins.
        x = arm(l(SEARCH, 2, 0), l(WAIT, 1, 0), l(GO, 1, 100));
        x.script(1, 2, true);
        x.script(2, 2, false);
        x.run();
        x.tick(2);
        Check.due("off as it begins", x.state(0), 10);
    }

    private static void searchEndsAGoInABox() {
        Check.promise(19);
        ArmPendant x = slider();
        taught(x, 0, 0, 5000);
        x.box(0, 5, 0, 6, 1);
        x.line(SEARCH, 0, 0);
        x.line(GO, 0, 100);
        x.input(0, true);
        x.run();
        Check.due("no tick goes, so that none is in the box", x.tick(1), 2);
        Check.due("no error", x.about(3), 0);
        x.input(0, false);
        x.run();
        Check.due("a tick goes", x.tick(1), 3);
        Check.due("error", x.about(3), 2);
    }

    /** The lines that a tick does behind a go that its search ends are counted from 0 on. */
    private static void goOfASearchIsNoLineOfItsTick() {
        Check.promise(19);
        ArmPendant x = arm(l(ADD, 0, 1), l(SEARCH, 1, 0), l(GO, 1, 100));
        for (int i = 0; i < 49; i++) {
            x.line(OUT, 0, 1);
        }
        x.line(ADD, 1, 1);
        x.line(IF_BELOW, 1, 2);
        x.line(END, 0, 0);
        x.line(JUMP, 5, 0);
        x.script(2, 1, true);
        x.run();
        Check.due("the go is under way", x.tick(1), 1);
        Check.due("lines", x.about(5), 3);
        // 49 outs, add, skip, jump, 47 outs: 99; and then add.
        Check.due("100 lines and then the 101st", x.tick(1), 3);
        Check.due("error", x.about(3), 4);
        Check.due("lines", x.about(5), 103);
        Check.due("added twice", x.at(1, 1), 2);
    }

    /** 99 lines, and then one more as told; all in one tick. */
    private static ArmPendant ninetyNineAnd(int... last) {
        ArmPendant x = arm();
        for (int i = 0; i < 47; i++) {
            x.line(ADD, 0, 1);
        }
        x.line(ADD, 1, 1);
        x.line(IF_BELOW, 1, 2);
        x.line(JUMP, 52, 0);
        x.line(JUMP, 1, 0);
        x.line(END, 0, 0);
        x.line(last[0], last[1], last[2]);
        x.line(WAIT, 1, 0);
        return x;
    }

    private static void theHundredthLine() {
        Check.promise(21);
        int[][] lasts = {l(WAIT, 1, 0), l(GO, 1, 100), l(END, 0, 0), l(RETURN, 0, 0)};
        for (int[] last : lasts) {
            ArmPendant x = ninetyNineAnd(last);
            x.run();
            boolean ends = last[0] == END || last[0] == RETURN;
            Check.due("the 100th line is done", x.tick(1), ends ? 2 : 1);
            Check.due("no error", x.about(3), 0);
            Check.due("lines", x.about(5), 100);
            Check.due("state", x.state(0), last[0] == GO ? 10 : 0);
        }
        int[][] noTime = {l(WAIT, 0, 0), l(GO, 0, 100), l(OUT, 1, 1), l(JUMP, 53, 0)};
        for (int[] last : noTime) {
            ArmPendant x = ninetyNineAnd(last);
            x.run();
            Check.due("the 101st errs", x.tick(1), 3);
            Check.due("error", x.about(3), 4);
            Check.due("the 101st line", x.about(2), 53);
            Check.due("lines", x.about(5), 100);
        }
        int[][] errs = {l(GO, 9, 1), l(JUMP, 59, 0), l(CALL, 59, 0)};
        for (int[] last : errs) {
            ArmPendant x = ninetyNineAnd(last);
            x.run();
            Check.due("the 100th errs", x.tick(1), 3);
            Check.due("by its own error", x.about(3), last[0] == GO ? 1 : 3);
            Check.due("line", x.about(2), 52);
        }
    }

    /** A program that errs at its line 3, with a line put by. */
    private static ArmPendant erring(int error, int onError) {
        ArmPendant x = new ArmPendant();
        x.joint(0, 0, 100, 100000, 100000);
        x.jog(0, 100000);
        x.teach(1);
        x.jog(0, 0);
        x.box(0, 300, 100, 400, 300);
        x.line(onError < 0 ? WAIT : ON_ERROR, onError < 0 ? 0 : onError, 0);
        x.line(CALL, error == 5 ? 3 : 2, 0);
        x.line(OUT, 0, 1);
        int[][] lines = {l(GO, 9, 1), l(GO, 1, 100), l(JUMP, 59, 0), l(JUMP, 3, 0), l(CALL, 3, 0)};
        int[] line = lines[error - 1];
        x.line(line[0], line[1], line[2]);
        x.line(END, 0, 0);
        x.line(OUT, 1, 1);
        x.line(GO, 9, 1);
        x.run();
        return x;
    }

    private static void eachErrorWithALineForErrors() {
        Check.promise(21);
        for (int error = 1; error <= 5; error++) {
            ArmPendant x = erring(error, 5);
            Check.due("goes on", x.tick(1), 1);
            int[] about = {1, 1, 5, error, 0};
            for (int what = 0; what < about.length; what++) {
                Check.due("error " + error + ", about " + what, x.about(what), about[what]);
            }
            Check.due("nothing is under way", x.about(6) + x.about(7), 0);
            Check.due("no line is for errors", x.about(8), ArmPendant.NONE);
            Check.due("in the next tick", x.at(0, 1), 0);
            Check.due("the next error stops it", x.tick(1), 3);
            Check.due("with the line for errors done", x.at(0, 1), 1);
            Check.due("by that", x.about(3), 1);
            Check.due("state", x.state(0), 0);
        }
    }

    private static void eachErrorWithoutALineForErrors() {
        Check.promise(21);
        for (int error = 1; error <= 5; error++) {
            for (int onError = -1; onError <= 7; onError += 8) {
                ArmPendant x = erring(error, onError);
                Check.due("stopped", x.tick(200), 3);
                int[] about = {3, 1, 3, onError < 0 ? error : 3, error == 5 ? 12 : 1};
                for (int what = 0; what < about.length; what++) {
                    Check.due("error " + error + " by " + onError + ", about " + what, x.about(what), about[what]);
                }
                Check.due("nothing is under way", x.about(6) + x.about(7), 0);
                Check.due("the line for errors stays told", x.about(8), onError);
                Check.due("it does not go", x.stop(), ArmPendant.NO);
            }
        }
    }

    private static void endKeepsWhatIsPutBy() {
        Check.promise(21);
        ArmPendant x = begun(l(ON_ERROR, 1, 0), l(CALL, 2, 0), l(END, 0, 0));
        Check.due("ended", x.tick(1), 2);
        Check.due("put by", x.about(4), 1);
        Check.due("line for errors", x.about(8), 1);
        Check.due("run", x.run(), 1);
        Check.due("nothing is put by", x.about(4), 0);
        Check.due("no line is for errors", x.about(8), ArmPendant.NONE);
    }

    private static void scriptsOfTheFirstAndTheLastTick() {
        Check.promise(16);
        ArmPendant x = arm(l(WAIT, 1000, 0), l(JUMP, 0, 0));
        x.script(1, 0, true);
        x.script(99999, 6, true);
        x.script(100000, 7, true);
        x.run();
        Check.due("tick 0", x.at(2, 0), 0);
        x.tick(1);
        Check.due("tick 1", x.at(2, 0), 1);
        x.tick(198);
        for (int i = 1; i < 500; i++) {
            x.tick(200);
        }
        Check.due("tick", x.about(1), 99999);
        Check.due("the last but one", x.at(2, 6), 1);
        Check.due("not yet", x.at(2, 7), 0);
        x.tick(1);
        Check.due("the last", x.at(2, 7), 1);
    }

    private static void scriptsWithoutARun() {
        Check.promise(16);
        ArmPendant x = arm(l(WAIT, 1, 0));
        x.script(1, 0, true);
        x.script(3, 1, true);
        x.tick(5);
        Check.due("none began", x.at(2, 0), 0);
        x.run();
        Check.due("ended in tick 2", x.tick(200), 2);
        Check.due("tick 1", x.at(2, 0), 1);
        Check.due("tick 3 never was", x.at(2, 1), 0);
        x.input(0, false);
        x.tick(5);
        Check.due("ended", x.at(2, 0), 0);
    }

    private static void ticksEndEarly() {
        Check.promise(19);
        ArmPendant x = begun(l(WAIT, 198, 0), l(OUT, 0, 1), l(WAIT, 1, 0));
        Check.due("just 199", x.tick(199), 1);
        Check.due("out", x.at(0, 0), 1);
        Check.due("the 200th ends it", x.tick(1), 2);
        Check.due("tick", x.about(1), 200);
        x.run();
        Check.due("in one call", x.tick(200), 2);
        Check.due("tick", x.about(1), 200);
        x.run();
        Check.due("not in 199", x.tick(199), 1);
        x = begun(l(WAIT, 3, 0), l(JUMP, 59, 0));
        Check.due("stopped", x.tick(200), 3);
        Check.due("tick", x.about(1), 4);
        x.stop();
        Check.due("it stays stopped by that", x.about(3), 3);
    }

    private static void travelBeyondAnInt() {
        Check.promise(23);
        ArmPendant x = new ArmPendant();
        x.joint(2, 0, 0, 100000, 100000);
        x.limits(2, -1000000, 1000000);
        taught(x, 0, 2, -1000000);
        taught(x, 1, 2, 1000000);
        x.jog(2, -1000000);
        x.line(GO, 1, 100);
        x.line(GO, 0, 100);
        x.line(JUMP, 0, 0);
        x.run();
        for (int i = 0; i < 120; i++) {
            x.tick(200);
        }
        Check.due("24000 ticks of 100000", x.travel(2), 2400000000L);
        Check.due("there and back", x.state(2), -1000000);
        Check.due("the others", x.travel(1), 0);
        x.keep(0);
        x.tick(1);
        Check.due("one more", x.travel(2), 2400100000L);
        x.back(0);
        Check.due("as it was kept", x.travel(2), 2400000000L);
        Check.due("the digest has it", x.digest(), sum(x));
    }

    private static void jogBetweenRunsIsWhereTheNextBegins() {
        Check.promise(4);
        ArmPendant x = arm(l(GO, 1, 100));
        Check.due("jog ahead of a run", x.jog(0, 45), 0);
        x.run();
        Check.due("a go of 5", x.tick(1), 1);
        Check.due("is there", x.state(0), 50);
        Check.due("jog in it", x.jog(0, 0), -1000000);
        Check.due("ends", x.tick(1), 2);
        Check.due("jog behind it", x.jog(0, 0), 50);
        Check.due("travel", x.travel(0), 5);
    }

    // ---- states kept

    private static void keptAtEachPlace() {
        Check.promise(24);
        ArmPendant x = arm(l(ADD, 0, 1), l(WAIT, 1, 0), l(JUMP, 0, 0));
        x.run();
        for (int k = 0; k < 4; k++) {
            Check.due("nothing is kept at " + k, x.back(k), ArmPendant.NO);
            x.tick(1);
            x.keep(k);
        }
        x.tick(5);
        for (int k = 3; k >= 0; k--) {
            Check.due("differs", x.replay(k, 1), 0);
            Check.due("back", x.back(k), 1);
            Check.due("register at " + k, x.at(1, 0), k + 1);
            Check.due("no difference", x.replay(k, 100), ArmPendant.NONE);
        }
        x.keep(3);
        x.back(2);
        x.back(3);
        Check.due("kept anew", x.at(1, 0), 1);
    }

    private static void replayAtItsEnds() {
        Check.promise(26);
        for (int wait = 99; wait <= 100; wait++) {
            ArmPendant x = arm(l(WAIT, wait, 0), l(IF_INPUT, 0, 0), l(OUT, 3, 1));
            x.run();
            x.keep(3);
            x.input(0, true);
            Check.due("the tick behind the wait", x.replay(3, 100), wait == 99 ? 100 : ArmPendant.NONE);
            Check.due("one less", x.replay(3, 99), ArmPendant.NONE);
            x.tick(98);
            x.keep(2);
            x.input(0, false);
            Check.due("the first of one", x.replay(2, 1), ArmPendant.NONE);
            x.tick(wait - 98);
            x.keep(2);
            x.input(0, true);
            Check.due("the first of one", x.replay(2, 1), 1);
            Check.due("the first of all", x.replay(2, 100), 1);
            x.jog(0, 1);
            Check.due("not by a jog in a run", x.replay(2, 1), 1);
            x.stop();
            x.jog(0, 1);
            Check.due("at once", x.replay(2, 1), 0);
        }
    }

    /** Each state, out and register counts by itself; inputs, travel and the run alone do not. */
    private static void replayOfEachSignal() {
        Check.promise(26);
        for (int i = 0; i < 8; i++) {
            ArmPendant x = arm(l(IF_INPUT, 0, 0), l(OUT, i, 1), l(IF_INPUT, 1, 0), l(ADD, i, 1), l(WAIT, 9, 0));
            x.run();
            x.keep(0);
            for (int which = 0; which < 2; which++) {
                x.input(which, true);
                Check.due("behind the first", x.replay(0, 9), 1);
                x.tick(1);
                Check.due("at once", x.replay(0, 9), 0);
                x.back(0);
            }
            x.input(i, true);
            Check.due("inputs", x.replay(0, 9), i < 2 ? 1 : ArmPendant.NONE);
        }
        for (int j = 0; j < 4; j++) {
            ArmPendant x = arm();
            x.keep(0);
            x.jog(j, -1);
            Check.due("a state", x.replay(0, 1), 0);
            x.jog(j, 0);
            Check.due("none", x.replay(0, 1), ArmPendant.NONE);
        }
        ArmPendant x = arm(l(GO, 1, 100), l(GO, 0, 100));
        x.keep(0);
        x.run();
        x.tick(11);
        Check.due("travel and the run do not count", x.replay(0, 100), ArmPendant.NONE);
    }

    private static void digestWraps() {
        Check.promise(28);
        ArmPendant x = new ArmPendant();
        Check.due("a new one", x.digest(), sum(x));
        x = begun(l(ADD, 0, MOST), l(ADD, 1, LEAST), l(ADD, 7, -1), l(OUT, 7, 1), l(WAIT, 9, 0));
        x.input(7, true);
        x.tick(1);
        Check.due("with registers at their ends", x.digest(), sum(x));
        x.stop();
        x.jog(0, -500000);
        x.jog(1, 500000);
        x.jog(2, -1);
        x.jog(3, 123456);
        Check.due("with states below 0", x.digest(), sum(x));
    }
}
