/** The bounds that section 5 and promises 17 to 19 and 32 name, of trains and engines: a test for each sentence. */
public final class BreakBoundsTest {
    private static final int[] NO_BREAK = {-1, 2, Integer.MIN_VALUE, Integer.MAX_VALUE};
    private static final String QUICK = " min 1 pass 1 yellow 1 clear 0";
    private static final String FOUR = "phase 0 0" + QUICK + ";phase 0 1" + QUICK + ";phase 1 0" + QUICK + ";phase 1 1" + QUICK + ";";

    private BreakBoundsTest() {
    }

    public static void main(String[] args) {
        askOfNoBreak();
        askAsItIs();
        letOfNoBreak();
        letAsItIs();
        brakesOfASet();
        brakesOfTicksAndCut();
        brakesOfNoBreak();
        brakesOfOneThatHasBegun();
        brakesOfFoes();
        brakesWithoutPhases();
        trainAheadOfEngine();
        trainTakesFromEngine();
        engineWaitsForTrain();
        stageByItsTrack();
        goalWithoutAPhaseOfARing();
        goalOfNone();
        goalThatIsThere();
        ringThatIsNotGreenIsSent();
        leavesThoughBelowMin();
        haltedIsCut();
        haltedIsAboveCut();
        cutOf0();
        haltBelowCut();
        ticksOnTheTrack();
        whatThatDoesBeginsNextTick();
        ticksOnTheDwell();
        dwellWhileWanted();
        endWithoutGreen();
        endWithOneGreen();
        endWithTwoGreen();
        noChoiceWhileThereIsOne();
        flashLeavesNoneBegun();
        brokenOfNoBreak();
        brokenThatHas();
        brokenFirst();
        brokenNever();
        brokenIsOnPaper();
        Check.end();
    }

    private static RingedLights busy() {
        RingedLights x = Check.of(FOUR + "break 0 track 1 2 dwell 5 3 cut 4;break 1 track 0 1 dwell 10 9 cut 1;");
        x.come(1, 20);
        x.ask(1);
        x.tick(5);
        Check.due("many(8)", x.many(8), 4);
        x.keep();
        return x;
    }

    private static void stage(RingedLights x, int begun, int stage, int ticks) {
        int tick = x.many(1);
        Check.due("tick " + tick + ": many(7)", x, x.many(7), begun, 0);
        Check.due("tick " + tick + ": many(8)", x, x.many(8), stage, 0);
        Check.due("tick " + tick + ": many(9)", x, x.many(9), ticks, 0);
    }

    // ---- promises 17 and 18

    private static void askOfNoBreak() {
        Doc.promise(17, "A BREAK is WANTED (2; 4).");
        RingedLights x = Check.of(FOUR);
        for (int brake : NO_BREAK) {
            Check.due("ask(" + brake + ")", x, x.ask(brake), 2);
        }
        Check.due("many(10)", x, x.many(10), 0, 0);
        Still.denied("ask(2)", BreakBoundsTest::busy, y -> y.ask(2), 2);
    }

    private static void askAsItIs() {
        Doc.term(5, "A BREAK is WANTED from ask() on, till let().");
        RingedLights x = Check.of(FOUR);
        Check.due("ask(0)", x, x.ask(0), 0);
        Check.due("ask(0)", x, x.ask(0), 4);
        Check.due("ask(1)", x, x.ask(1), 0);
        Check.due("many(10)", x, x.many(10), 3, 0);
        x.let(0);
        Check.due("ask(0)", x, x.ask(0), 0);
        Still.denied("ask(1)", BreakBoundsTest::busy, y -> y.ask(1), 4);
    }

    private static void letOfNoBreak() {
        Doc.promise(18, "It is WANTED no more (2; 4).");
        RingedLights x = Check.of(FOUR);
        for (int brake : NO_BREAK) {
            Check.due("let(" + brake + "): 2 goes ahead of 4", x, x.let(brake), 2);
        }
        Still.denied("let(-1)", BreakBoundsTest::busy, y -> y.let(-1), 2);
    }

    private static void letAsItIs() {
        Doc.promise(18, "(2; 4)");
        RingedLights x = Check.of(FOUR);
        Check.due("let(0)", x, x.let(0), 4);
        Check.due("let(1)", x, x.let(1), 4);
        x.ask(1);
        Check.due("let(0)", x, x.let(0), 4);
        Check.due("let(1)", x, x.let(1), 0);
        Check.due("let(1)", x, x.let(1), 4);
        Still.denied("let(0)", BreakBoundsTest::busy, y -> y.let(0), 4);
    }

    // ---- promise 19

    private static void brakesOfASet() {
        Doc.promise(19, "What a BREAK is from now on (1; 2; 4: it has begun; 7).");
        RingedLights x = Check.of(FOUR);
        Check.due("none", x, x.brakes(0, 0, 1, 0, 1, 1), 0);
        Check.due("the last", x, x.brakes(0, 8, 1, 8, 1, 1), 0);
        Check.due("of each ring one", x, x.brakes(0, 5, 1, 10, 1, 1), 0);
        for (int set : new int[] {-1, 16, 17, 256, Integer.MIN_VALUE, Integer.MAX_VALUE}) {
            Check.due("track " + set, x, x.brakes(0, set, 1, 0, 1, 1), 1);
            Check.due("dwell " + set, x, x.brakes(0, 0, 1, set, 1, 1), 1);
        }
        Check.due("brake(0, 0)", x, x.brake(0, 0), 5, 0);
        Check.due("brake(0, 2)", x, x.brake(0, 2), 10, 0);
        Still.denied("track 16", BreakBoundsTest::busy, y -> y.brakes(0, 16, 1, 1, 1, 1), 1);
        Still.denied("dwell -1", BreakBoundsTest::busy, y -> y.brakes(0, 1, 1, -1, 1, 1), 1);
    }

    private static void brakesOfTicksAndCut() {
        Doc.term(1, "TRACK and DWELL for so many TICKS (0 to 30), CUT (0 to 20)");
        RingedLights x = Check.of(FOUR);
        Check.due("the least", x, x.brakes(1, 1, 0, 1, 0, 0), 0);
        Check.due("the most", x, x.brakes(1, 2, 30, 2, 30, 20), 0);
        for (int ticks : new int[] {-1, 31, Integer.MIN_VALUE, Integer.MAX_VALUE}) {
            Check.due("ticks " + ticks, x, x.brakes(1, 1, ticks, 1, 1, 1), 1);
            Check.due("least " + ticks, x, x.brakes(1, 1, 1, 1, ticks, 1), 1);
        }
        for (int cut : new int[] {-1, 21, Integer.MIN_VALUE, Integer.MAX_VALUE}) {
            Check.due("cut " + cut, x, x.brakes(1, 1, 1, 1, 1, cut), 1);
        }
        int[] had = {2, 30, 2, 30, 20, 0};
        for (int what = 0; what < 6; what++) {
            Check.due("brake(1, " + what + ")", x, x.brake(1, what), had[what], 0);
            Check.due("brake(0, " + what + ")", x, x.brake(0, what), 0, 0);
        }
        Still.denied("ticks 31", BreakBoundsTest::busy, y -> y.brakes(0, 1, 31, 1, 1, 1), 1);
        Still.denied("least 31", BreakBoundsTest::busy, y -> y.brakes(0, 1, 1, 1, 31, 1), 1);
        Still.denied("cut 21", BreakBoundsTest::busy, y -> y.brakes(0, 1, 1, 1, 1, 21), 1);
    }

    private static void brakesOfNoBreak() {
        Doc.promise(19, "(1; 2; 4: it has begun; 7)");
        RingedLights x = Check.of(FOUR);
        for (int brake : NO_BREAK) {
            Check.due("brakes of " + brake, x, x.brakes(brake, 1, 1, 1, 1, 1), 2);
            Check.due("brakes of " + brake + ": 1 goes ahead of 2", x, x.brakes(brake, 1, 1, 1, 1, 21), 1);
            Check.due("brakes of " + brake + ": 2 goes ahead of 7", x, x.brakes(brake, 3, 1, 1, 1, 1), 2);
        }
        Still.denied("brakes of 2", BreakBoundsTest::busy, y -> y.brakes(2, 1, 1, 1, 1, 1), 2);
    }

    private static void brakesOfOneThatHasBegun() {
        Doc.promise(19, "4: it has begun");
        Still.denied("brakes of 1", BreakBoundsTest::busy, y -> y.brakes(1, 1, 1, 1, 1, 1), 4);
        Still.denied("brakes of 1: 4 goes ahead of 7", BreakBoundsTest::busy, y -> y.brakes(1, 3, 1, 1, 1, 1), 4);
        Still.denied("brakes of 1: 1 goes ahead of 4", BreakBoundsTest::busy, y -> y.brakes(1, 16, 1, 1, 1, 1), 1);
        RingedLights x = busy();
        x.ask(0);
        Check.due("brakes of the other, that is wanted", x, x.brakes(0, 2, 1, 2, 1, 1), 0);
        x.tick(2);
        stage(x, 0, 2, 0);
        Check.due("brakes of 0", x, x.brakes(0, 0, 0, 0, 0, 0), 4);
        Check.due("brakes of one that was ended, and is wanted", x, x.brakes(1, 0, 0, 0, 0, 0), 0);
        x.let(0);
        x.let(1);
        x.tick(3);
        stage(x, -1, 0, 0);
        Check.due("brakes of 0 behind its end", x, x.brakes(0, 0, 0, 0, 0, 0), 0);
    }

    private static void brakesOfFoes() {
        Doc.term(7, "7 a SET of which two are FOES.");
        Still.denied("track of foes", BreakBoundsTest::busy, y -> y.brakes(0, 3, 1, 0, 1, 1), 7);
        Still.denied("dwell of foes", BreakBoundsTest::busy, y -> y.brakes(0, 0, 1, 9, 1, 1), 7);
        Still.denied("both of foes", BreakBoundsTest::busy, y -> y.brakes(0, 15, 1, 15, 1, 1), 7);
    }

    private static void brakesWithoutPhases() {
        Doc.term(1, "SETS of PHASES (bits) no two of which are FOES");
        RingedLights x = new RingedLights();
        Check.due("none", x, x.brakes(0, 0, 30, 0, 30, 20), 0);
        Check.due("track of a phase", x, x.brakes(0, 1, 1, 0, 1, 1), 1);
        Check.due("dwell of a phase", x, x.brakes(0, 0, 1, 1, 1, 1), 1);
    }

    // ---- section 5: who begins

    private static void trainAheadOfEngine() {
        Doc.term(5, "if none has begun: 0 begins if it is WANTED, else 1 if that is");
        RingedLights x = Check.of(FOUR);
        x.tick(1);
        stage(x, -1, 0, 0);
        x.ask(1);
        x.keep();
        x.tick(1);
        Check.due("many(7): the engine", x, x.many(7), 1, 0);
        x.back();
        x.ask(0);
        x.tick(1);
        Check.due("many(7): the train", x, x.many(7), 0, 0);
    }

    private static void trainTakesFromEngine() {
        Doc.term(5, "if 1 has begun and 0 is WANTED, 1 ends and 0 begins.");
        RingedLights x = busy();
        x.let(1);
        x.ask(0);
        x.tick(1);
        stage(x, 0, 1, 0);
        Check.event(x, 3, 3, 6, 1);
        Check.event(x, 2, 2, 6, 0);
        Check.event(x, 1, 1, 6, 1);
        Check.event(x, 0, 1, 6, 3);
    }

    private static void engineWaitsForTrain() {
        Doc.term(5, "if none has begun: 0 begins if it is WANTED, else 1 if that is");
        RingedLights x = Check.of(FOUR + "break 0 track 0 0 dwell 5 3 cut 0;break 1 track 0 0 dwell 10 0 cut 0;");
        x.ask(0);
        x.tick(1);
        stage(x, 0, 4, 0);
        x.ask(1);
        x.tick(5);
        stage(x, 0, 4, 5);
        x.let(0);
        x.tick(1);
        stage(x, -1, 0, 0);
        x.tick(1);
        stage(x, 1, 3, 0);
    }

    private static void stageByItsTrack() {
        Doc.term(5, "As it begins its STAGE is 1, if its TRACK is not 0, else 3.");
        RingedLights x = Check.of(FOUR + "break 0 track 2 9 dwell 2 9 cut 0;break 1 track 0 9 dwell 2 9 cut 0;");
        x.tick(1);
        x.keep();
        x.ask(0);
        x.tick(1);
        stage(x, 0, 1, 0);
        x.back();
        x.ask(1);
        x.tick(1);
        stage(x, 1, 3, 0);
    }

    // ---- section 5: where it goes

    private static void goalWithoutAPhaseOfARing() {
        Doc.term(5, "for each RING g is the PHASE of it in the GOAL (none).");
        RingedLights x = Check.of(FOUR + "break 0 track 1 9 dwell 8 9 cut 0;");
        x.tick(1);
        x.ask(0);
        x.tick(1);
        Check.ring(x, 0, 0, 0, 1, -1);
        Check.ring(x, 1, 2, 1, 0, -1);
        stage(x, 0, 1, 0);
        x.tick(1);
        Check.ring(x, 1, -1, 3, 0, -1);
        stage(x, 0, 2, 0);
    }

    private static void goalOfNone() {
        Doc.term(5, "each RING is GREEN AT its g, or, without g, AT none: the next STAGE, with 0 TICKS.");
        RingedLights x = Check.of("phase 0 0;phase 0 1;");
        x.tick(1);
        x.ask(0);
        x.tick(1);
        Check.ring(x, 0, 0, 1, 0, -1);
        stage(x, 0, 3, 0);
        x.tick(3);
        Check.ring(x, 0, 0, 2, 0, -1);
        stage(x, 0, 3, 0);
        x.tick(1);
        Check.ring(x, 0, -1, 3, 0, -1);
        stage(x, 0, 4, 0);
        x = new RingedLights();
        x.ask(1);
        x.tick(1);
        stage(x, 1, 4, 0);
    }

    private static void goalThatIsThere() {
        Doc.term(5, "Then (7), and if behind that each RING is GREEN AT its g");
        RingedLights x = Check.of(FOUR + "break 0 track 5 9 dwell 5 9 cut 0;");
        x.ask(0);
        x.tick(1);
        stage(x, 0, 2, 0);
        Check.ring(x, 0, 0, 0, 0, -1);
        Check.ring(x, 1, 2, 0, 0, -1);
        x = Check.of(FOUR + "break 0 track 5 9 dwell 5 9 cut 0;");
        x.tick(4);
        x.ask(0);
        x.tick(1);
        stage(x, 0, 2, 0);
        Check.ring(x, 0, 0, 0, 4, -1);
    }

    private static void ringThatIsNotGreenIsSent() {
        Doc.term(5, "Else, if it is not GREEN: TO g.");
        RingedLights x = Check.of("phase 0 0 min 1 pass 1 yellow 2 clear 2;phase 0 1;phase 0 1;phase 0 0;"
                + "break 0 track 0 0 dwell 4 0 cut 0;break 1 track 0 0 dwell 0 0 cut 0;");
        x.call(1, false);
        x.tick(2);
        Check.ring(x, 0, 0, 1, 0, 1);
        x.keep();
        x.ask(0);
        x.tick(1);
        Check.ring(x, 0, 0, 1, 1, 2);
        x.back();
        x.tick(1);
        x.ask(0);
        x.tick(1);
        Check.ring(x, 0, 0, 2, 0, 2);
        x.tick(2);
        Check.ring(x, 0, 2, 0, 0, -1);
        x = Check.of("phase 0 0;phase 0 1;break 1 track 0 0 dwell 0 0 cut 0;");
        Check.ring(x, 0, -1, 3, 0, 0);
        x.ask(1);
        x.tick(1);
        Check.ring(x, 0, -1, 3, 0, -1);
        stage(x, 1, 4, 0);
    }

    private static void leavesThoughBelowMin() {
        Doc.term(5, "if WALKING is 0, or HALTED is CUT or above, it LEAVES TO g.");
        RingedLights x = Check.of("phase 0 0 min 30 recall 2;phase 0 1;break 0 track 0 0 dwell 2 0 cut 20;");
        x.tick(1);
        x.ask(0);
        x.tick(1);
        Check.ring(x, 0, 0, 1, 0, 1);
        Check.event(x, 0, 1, 2, 0);
    }

    private static RingedLights walking(int walk, int halt, int cut) {
        RingedLights x = Check.of("phase 0 0 walk " + walk + " halt " + halt + QUICK + ";phase 0 1;break 0 track 0 0 dwell 2 0 cut "
                + cut + ";");
        x.call(0, true);
        x.tick(1);
        return x;
    }

    private static void haltedIsCut() {
        Doc.term(5, "if WALKING is 1 it is 2, HALTED 0");
        RingedLights x = walking(20, 20, 3);
        x.ask(0);
        x.tick(1);
        Check.ring(x, 0, 0, 0, 1, -1, 1, 0, 2, 0);
        x.tick(2);
        Check.ring(x, 0, 0, 0, 3, -1, 3, 0, 2, 2);
        x.tick(1);
        Check.ring(x, 0, 0, 1, 0, 1);
        x = walking(20, 20, 20);
        x.ask(0);
        x.tick(20);
        Check.ring(x, 0, 0, 0, 20, -1, 20, 0, 2, 19);
        x.tick(1);
        Check.ring(x, 0, 0, 1, 0, 1);
    }

    private static void haltedIsAboveCut() {
        Doc.term(5, "HALTED is CUT or above");
        RingedLights x = walking(1, 20, 3);
        x.tick(5);
        Check.ring(x, 0, 0, 0, 5, -1, 5, 0, 2, 4);
        x.ask(0);
        x.tick(1);
        Check.ring(x, 0, 0, 1, 0, 1);
    }

    private static void cutOf0() {
        Doc.term(5, "HALTED is CUT or above");
        RingedLights x = walking(20, 20, 0);
        x.ask(0);
        x.tick(1);
        Check.ring(x, 0, 0, 1, 0, 1, 0, 0, 0, 0);
    }

    private static void haltBelowCut() {
        Doc.term(5, "if WALKING is 0, or HALTED is CUT or above");
        RingedLights x = walking(20, 2, 9);
        x.ask(0);
        x.tick(2);
        Check.ring(x, 0, 0, 0, 2, -1, 2, 0, 2, 1);
        x.tick(1);
        Check.ring(x, 0, 0, 1, 0, 1);
    }

    // ---- section 5: how long it stays

    private static void ticksOnTheTrack() {
        Doc.term(5, "STAGE 2: one TICK more; with as many as told for its TRACK, or more, STAGE 3, 0 TICKS");
        for (int told : new int[] {0, 1, 2, 30}) {
            RingedLights x = Check.of(FOUR + "break 0 track 5 " + told + " dwell 10 0 cut 0;");
            x.ask(0);
            x.tick(1);
            for (int ticks = 0; ticks < Math.max(1, told); ticks++) {
                stage(x, 0, 2, ticks);
                x.tick(1);
            }
            stage(x, 0, 3, 0);
        }
    }

    private static void whatThatDoesBeginsNextTick() {
        Doc.term(5, "(what that does begins with the next TICK)");
        RingedLights x = Check.of(FOUR + "break 0 track 5 1 dwell 10 0 cut 0;");
        x.ask(0);
        x.tick(2);
        stage(x, 0, 3, 0);
        Check.ring(x, 0, 0, 0, 1, -1);
        x.tick(1);
        stage(x, 0, 3, 0);
        Check.ring(x, 0, 0, 1, 0, 1);
        x = Check.of(FOUR + "break 0 track 5 1 dwell 5 0 cut 0;");
        x.ask(0);
        x.tick(2);
        stage(x, 0, 3, 0);
        x.tick(1);
        stage(x, 0, 4, 0);
    }

    private static void ticksOnTheDwell() {
        Doc.term(5, "STAGE 4: one TICK more; with as many as told for its DWELL, or more, if it is not WANTED: it ends");
        for (int told : new int[] {0, 1, 2, 30}) {
            RingedLights x = Check.of(FOUR + "break 1 track 0 0 dwell 5 " + told + " cut 0;");
            x.ask(1);
            x.tick(1);
            x.let(1);
            for (int ticks = 0; ticks < Math.max(1, told); ticks++) {
                stage(x, 1, 4, ticks);
                x.tick(1);
            }
            stage(x, -1, 0, 0);
            Check.event(x, 0, 3, 1 + Math.max(1, told), 1);
        }
    }

    private static void dwellWhileWanted() {
        Doc.term(5, "if it is not WANTED: it ends");
        RingedLights x = Check.of(FOUR + "break 1 track 0 0 dwell 5 2 cut 0;");
        x.ask(1);
        x.tick(200);
        stage(x, 1, 4, 199);
        x.let(1);
        x.ask(1);
        x.tick(1);
        stage(x, 1, 4, 200);
        x.let(1);
        x.tick(1);
        stage(x, -1, 0, 0);
    }

    private static void endWithoutGreen() {
        Doc.term(5, "if no RING is GREEN then a START");
        RingedLights x = Check.of("phase 0 1;phase 1 1;phase 1 1;");
        x.ask(0);
        x.tick(1);
        stage(x, 0, 4, 0);
        Check.ring(x, 0, -1, 3, 0, -1);
        x.let(0);
        x.tick(1);
        stage(x, -1, 0, 0);
        Check.ring(x, 0, 0, 0, 0, -1);
        Check.ring(x, 1, 1, 0, 0, -1);
        x = new RingedLights();
        x.ask(0);
        x.tick(1);
        x.let(0);
        x.tick(1);
        stage(x, -1, 0, 0);
        Check.ring(x, 0, -1, 3, 0, -1);
    }

    private static void endWithOneGreen() {
        Doc.term(5, "else each RING AT none is TO the first of its ROW on the SIDE of the GREEN one.");
        String text = "phase 0 0;phase 0 1;phase 0 1;phase 1 0;phase 1 1;phase 1 1;break 0 track 0 0 dwell ";
        int[][] rows = {{1, 0, 3}, {2, 1, 4}, {4, 2, 4}, {8, 0, 3}, {16, 1, 4}, {32, 1, 5}};
        for (int[] row : rows) {
            RingedLights x = Check.of(text + row[0] + " 0 cut 0;");
            x.ask(0);
            x.tick(1);
            Check.due("the other ring", x, x.ring(row[0] < 8 ? 1 : 0, 0), -1, 0);
            x.let(0);
            x.tick(1);
            Check.ring(x, 0, row[1], 0);
            Check.ring(x, 1, row[2], 0);
        }
        RingedLights x = Check.of("phase 0 0;phase 1 1;break 0 track 0 0 dwell 1 0 cut 0;");
        x.ask(0);
        x.tick(1);
        x.let(0);
        x.tick(1);
        Check.ring(x, 0, 0, 0, 1, -1);
        Check.ring(x, 1, -1, 3, 0, -1);
    }

    private static void endWithTwoGreen() {
        Doc.term(5, "else each RING AT none is TO the first of its ROW");
        RingedLights x = Check.of("phase 0 0;phase 0 0;phase 1 0;phase 1 0;break 0 track 0 0 dwell 10 0 cut 0;");
        x.ask(0);
        x.tick(1);
        x.let(0);
        x.tick(1);
        stage(x, -1, 0, 0);
        Check.ring(x, 0, 1, 0, 1, -1);
        Check.ring(x, 1, 3, 0, 1, -1);
    }

    private static void noChoiceWhileThereIsOne() {
        Doc.term(3, "(5) BREAKS (section 5). While there is one (6) is left out.");
        RingedLights x = Check.of(FOUR + "break 0 track 0 0 dwell 5 0 cut 0;");
        x.call(1, false);
        x.ask(0);
        x.tick(50);
        Check.ring(x, 0, 0, 0, 49, -1, 49, 49, 0, 0, 1);
        x.let(0);
        x.tick(1);
        stage(x, -1, 0, 0);
        Check.ring(x, 0, 0, 1, 0, 1);
    }

    private static void flashLeavesNoneBegun() {
        Doc.term(3, "no BREAK is begun");
        RingedLights x = busy();
        x.stick(0, true);
        x.tick(1);
        Check.due("many(5)", x, x.many(5), 1, 0);
        stage(x, -1, 0, 0);
        Check.due("many(10): it is wanted still", x, x.many(10), 2, 0);
        Check.due("let(1) in a flash", x, x.let(1), 0);
        Check.due("ask(1) in a flash", x, x.ask(1), 0);
        Check.due("brakes in a flash", x, x.brakes(1, 5, 1, 5, 1, 1), 0);
        x.tick(9);
        stage(x, -1, 0, 0);
        x.stick(0, false);
        x.reset();
        stage(x, -1, 0, 0);
        x.tick(1);
        stage(x, 1, 2, 0);
    }

    // ---- promise 32

    private static void brokenOfNoBreak() {
        Doc.promise(32, "(0: it has) (2; 6).");
        RingedLights x = Check.of(FOUR);
        for (int brake : NO_BREAK) {
            Check.refused("broken(" + brake + ")", x, x.broken(brake), 2);
        }
        x.stick(0, true);
        x.stick(1, true);
        x.tick(1);
        Check.refused("broken(2) in a flash: 2 goes ahead of 6", x, x.broken(2), 2);
        Still.refused("broken(2)", BreakBoundsTest::busy, y -> y.broken(2), 2);
    }

    private static void brokenThatHas() {
        Doc.promise(32, "has STAGE 2 or 4 first, if it is WANTED from now on (0: it has)");
        RingedLights x = Check.of(FOUR + "break 0 track 5 1 dwell 10 9 cut 0;");
        x.tick(2);
        Check.due("broken(0): with the next tick", x, x.broken(0), 1, 0);
        x.ask(0);
        x.tick(1);
        stage(x, 0, 2, 0);
        Check.due("broken(0): stage 2", x, x.broken(0), 0, 0);
        x.let(0);
        Check.due("broken(0): stage 2, no more wanted", x, x.broken(0), 0, 0);
        x.tick(1);
        stage(x, 0, 3, 0);
        Check.due("broken(0): stage 3, yellow, green", x, x.broken(0), 2, 0);
        x.tick(2);
        stage(x, 0, 4, 0);
        Check.due("broken(0): stage 4", x, x.broken(0), 0, 0);
    }

    private static void brokenFirst() {
        Doc.promise(32, "In how many TICKS a BREAK has STAGE 2 or 4 first");
        RingedLights x = Check.of("phase 0 0;phase 0 1;break 0 track 2 1 dwell 2 3 cut 0;break 1 track 0 0 dwell 1 30 cut 0;");
        x.tick(1);
        Check.due("broken(0): yellow for 3, red for 1, from the next on", x, x.broken(0), 5, 0);
        Check.due("broken(1)", x, x.broken(1), 1, 0);
        x.ask(0);
        x.tick(1);
        x.let(0);
        // 4 to the track, 1 on it, 1 to the dwell, 3 on it; then the engine begins: yellow for 3, red for 1
        Check.due("broken(1) behind the train", x, x.broken(1), 4 + 1 + 1 + 3 + 1 + 4, 0);
        x = new RingedLights();
        Check.due("broken(0) without phases", x, x.broken(0), 1, 0);
    }

    private static void brokenNever() {
        Doc.term(7, "6 it does not come to that.");
        RingedLights x = Check.of(FOUR);
        x.ask(0);
        Check.refused("broken(1): the train is wanted for good", x, x.broken(1), 6);
        x.tick(1);
        Check.refused("broken(1): the train has begun", x, x.broken(1), 6);
        x.let(0);
        Check.due("broken(1): the train ends in 1, the engine is there in 2, 3", x, x.broken(1), 3, 0);
        x.stick(0, true);
        x.stick(1, true);
        x.tick(1);
        Check.refused("broken(0) in a flash", x, x.broken(0), 6);
        Still.refused("broken(0)", () -> {
            RingedLights y = busy();
            y.stick(0, true);
            y.tick(1);
            return y;
        }, y -> y.broken(0), 6);
    }

    private static void brokenIsOnPaper() {
        Doc.promise(32, "if it is WANTED from now on");
        Still.answered("broken(0)", BreakBoundsTest::busy, y -> y.broken(0), 2);
        Still.answered("broken(1)", BreakBoundsTest::busy, y -> y.broken(1), 0);
        RingedLights x = Check.of(FOUR);
        x.broken(0);
        Check.due("many(10)", x, x.many(10), 0, 0);
    }
}
