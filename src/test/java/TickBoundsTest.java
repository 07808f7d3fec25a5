/** The bounds that sections 2, 3, 4 and 6 and promises 22 and 23 name, of what goes on in ticks: a test for each. */
public final class TickBoundsTest {
    private static final String QUICK = " min 1 pass 1 yellow 1 clear 0";
    private static final String TWO = "phase 0 0" + QUICK + ";phase 0 1" + QUICK + ";";

    private TickBoundsTest() {
    }

    public static void main(String[] args) {
        startOnSide0();
        startOnSide1();
        startOfNone();
        greenBeginsWithNothing();
        greenTakesTheCalls();
        leavesToNone();
        goesToNoneThoughItHoldsNone();
        waitingRingHasNoAge();
        ticksAreNumberedFrom1();
        flashLeavesOutTheRest();
        gapOfAQueue();
        gapOfACall();
        letGoOfAnEmptyQueue();
        pressedByOneAsked();
        walkOrAbove();
        haltOrAbove();
        haltOf0();
        yellowOrAbove();
        clearOrAbove();
        redAtOnce();
        doneByMin();
        doneByPass();
        doneByMax();
        doneButForRecall2();
        doneWithNobodyWalking();
        doneByTheClockAlone();
        doneOfOneThatIsNotTheFirst();
        nextIsBehindItOnItsSide();
        ifNoneDid();
        ifEachThatHoldsIsDone();
        ifOneDoes();
        toTheOtherSide();
        toThisSide();
        waitsForAFoe();
        monitorOfTwoFoes();
        monitorOfTheLeastWithAFoe();
        monitorOnceAlone();
        waitedByAllQueues();
        clockAtCycleIs0();
        dueBelow0();
        aheadBelow0();
        everyFourthTick();
        aheadOfHalfAndMore();
        clockRoundByAStep();
        forcedBelowHalf();
        forcedRound();
        drawBelowTheRate();
        drawRoundedDown();
        drawOfEachPhase();
        drawsGoOnThroughARun();
        queueOf99Stays();
        tickHasNoComers();
        tickOfHowMany();
        runOfHowMany();
        runOfWhichSeed();
        runTellsItsOwn();
        Check.end();
    }

    /** What a ring answers in each of the ticks to come, as one row of numbers a tick. */
    private static void each(RingedLights x, int ring, int what, int... wanted) {
        for (int due : wanted) {
            int tick = x.tick(1);
            Check.due("tick " + tick + ": ring(" + ring + ", " + what + ")", x, x.ring(ring, what), due, 0);
        }
    }

    // ---- section 2

    private static void startOnSide0() {
        Doc.term(2, "A START: each RING is AT none, WAITS, AGE 0, TO the first of its ROW on SIDE 0, if there are any PHASES there");
        RingedLights x = Check.of("phase 0 1;phase 1 0;phase 0 0;phase 1 0;phase 0 0;");
        Check.ring(x, 0, -1, 3, 0, 2);
        Check.ring(x, 1, -1, 3, 0, 1);
        x = Check.of("phase 0 1;phase 1 0;");
        Check.ring(x, 0, -1, 3, 0, -1);
        Check.ring(x, 1, -1, 3, 0, 1);
        x = Check.of("phase 1 1;phase 0 0;");
        Check.ring(x, 0, -1, 3, 0, 1);
        Check.ring(x, 1, -1, 3, 0, -1);
    }

    private static void startOnSide1() {
        Doc.term(2, "else on SIDE 1 (none there: TO none).");
        RingedLights x = Check.of("phase 1 1;phase 1 1;phase 0 1;");
        Check.ring(x, 0, -1, 3, 0, 2);
        Check.ring(x, 1, -1, 3, 0, 0);
        x = Check.of("phase 0 1;");
        Check.ring(x, 0, -1, 3, 0, 0);
        Check.ring(x, 1, -1, 3, 0, -1);
    }

    private static void startOfNone() {
        Doc.term(2, "(none there: TO none)");
        RingedLights x = Check.of("cycle 20;");
        x.tick(3);
        Check.ring(x, 0, -1, 3, 0, -1);
        Check.ring(x, 1, -1, 3, 0, -1);
    }

    private static void greenBeginsWithNothing() {
        Doc.term(2, "A PHASE BECOMES GREEN: its RING is AT it, GREEN, AGE 0, GAP, PRESSED, HALTED 0, TO none; "
                + "WALKING 1 if it is on FOOT, else 0");
        RingedLights x = Check.of("phase 0 0 walk 1 halt 3" + QUICK + ";phase 0 1" + QUICK + ";");
        x.call(0, true);
        x.call(1, false);
        x.tick(1);
        Check.ring(x, 0, 0, 0, 0, -1, 0, 0, 1, 0);
        x.tick(3);
        Check.ring(x, 0, 0, 0, 3, -1, 3, 3, 2, 2, 0);
        x.tick(2);
        Check.ring(x, 0, 1, 0, 0, -1, 0, 0, 0, 0, 0);
        x.call(0, false);
        x.tick(2);
        Check.ring(x, 0, 0, 0, 0, -1, 0, 0, 0, 0, 0);
    }

    private static void greenTakesTheCalls() {
        Doc.term(2, "no call, no call on foot waits for it any more");
        RingedLights x = Check.of("phase 0 0 walk 9;phase 0 1 walk 9;");
        for (int phase = 0; phase < 2; phase++) {
            x.call(phase, false);
            x.call(phase, true);
        }
        x.tick(1);
        Check.due("phase(0, 4)", x, x.phase(0, 4), 0, 0);
        Check.due("phase(0, 5)", x, x.phase(0, 5), 0, 0);
        Check.due("phase(1, 4)", x, x.phase(1, 4), 1, 0);
        Check.due("phase(1, 5)", x, x.phase(1, 5), 1, 0);
        Check.due("call(0, true)", x, x.call(0, true), 0);
    }

    private static void leavesToNone() {
        Doc.term(2, "A RING LEAVES TO a PHASE (or none): it is YELLOW, AGE 0, TO that, WALKING 0.");
        RingedLights x = Check.of("phase 0 0" + QUICK + ";phase 0 1;phase 1 0 min 1 pass 1 yellow 1 clear 1;");
        x.call(1, false);
        x.tick(2);
        Check.ring(x, 0, 0, 1, 0, 1, 0, 0, 0, 0, 0, 0);
        Check.ring(x, 1, 2, 1, 0, -1, 0, 0, 0, 0, 0, 0);
        Check.event(x, 1, 1, 2, 0);
        Check.event(x, 0, 1, 2, 2);
        x.tick(2);
        Check.ring(x, 0, 1, 0, 0, -1);
        Check.ring(x, 1, -1, 3, 0, -1);
    }

    private static void goesToNoneThoughItHoldsNone() {
        Doc.term(2, "It GOES TO one (or none): it LEAVES TO it, if it HOLDS one, else it is TO it.");
        RingedLights x = Check.of("phase 0 0" + QUICK + ";phase 0 1" + QUICK + ";phase 1 0" + QUICK + ";");
        x.call(1, false);
        x.tick(3);
        Check.ring(x, 0, 1, 0, 0, -1);
        Check.ring(x, 1, -1, 3, 0, -1);
        x.call(2, false);
        x.tick(1);
        // ring 1 holds none: it is sent, without yellow and without an event
        Check.ring(x, 0, 1, 1, 0, 0);
        Check.ring(x, 1, -1, 3, 0, 2);
        Check.event(x, 0, 1, 4, 1);
        Check.event(x, 1, 0, 3, 1);
    }

    private static void waitingRingHasNoAge() {
        Doc.term(3, "(4) Each RING that HOLDS a PHASE, 0 ahead of 1: AGE 1 more.");
        RingedLights x = Check.of("phase 0 0 min 1 pass 1 yellow 1 clear 1;phase 0 1;phase 1 0 min 1 pass 1 yellow 5;phase 1 1;");
        x.call(1, false);
        x.tick(3);
        Check.ring(x, 0, 0, 2, 0, 1);
        each(x, 0, 2, 0, 0, 0, 0);
        Check.ring(x, 0, -1, 3, 0, 1);
        Check.ring(x, 1, 2, 2, 0, 3);
        x.tick(1);
        Check.ring(x, 0, 1, 0, 0, -1);
        Check.ring(x, 1, 3, 0, 0, -1);
    }

    // ---- section 3

    private static void ticksAreNumberedFrom1() {
        Doc.term(3, "A TICK, numbered from 1 on:");
        RingedLights x = Check.of("phase 0 0;");
        Check.due("many(1): none yet", x, x.many(1), 0, 0);
        Check.due("tick(1)", x, x.tick(1), 1, 0);
        Check.event(x, 0, 0, 1, 0);
    }

    private static void flashLeavesOutTheRest() {
        Doc.term(3, "(3) With a FLASH nothing more but (8), (9).");
        RingedLights x = Check.of("cycle 30;phase 0 0 rate 30;phase 0 1;phase 1 0;break 0 track 0 0 dwell 1 0 cut 0;");
        x.come(1, 5);
        x.stick(0, true);
        x.stick(1, true);
        x.ask(0);
        x.tick(1);
        Check.event(x, 0, 4, 1, 0);
        Check.event(x, 1, 0, 1, 0);
        Check.event(x, 2, 2, 1, 0);
        x.tick(10);
        Check.due("run(1, 0): a draw of 12", x, x.run(1, 0), 0, 0);
        Check.event(x, 0, 4, 1, 0);
        Check.ring(x, 0, -1, 3, 0, -1);
        Check.ring(x, 1, -1, 3, 0, -1);
        Check.due("many(4): the clock goes on", x, x.many(4), 12, 0);
        Check.due("many(7)", x, x.many(7), -1, 0);
        Check.due("phase(0, 3): comers come", x, x.phase(0, 3), 1, 0);
        Check.due("sum(0)", x, x.sum(0), 0, 0);
        Check.due("sum(1): they wait", x, x.sum(1), 61, 0);
    }

    private static void gapOfAQueue() {
        Doc.term(3, "if its QUEUE is above 0, or it was called behind the TICK ahead, GAP is 0, else 1 more");
        RingedLights x = Check.of("phase 0 0;");
        x.come(0, 2);
        each(x, 0, 4, 0, 0, 0, 1, 2);
        x.come(0, 1);
        each(x, 0, 4, 0, 1);
    }

    private static void gapOfACall() {
        Doc.term(3, "or it was called behind the TICK ahead");
        RingedLights x = Check.of("phase 0 0;phase 1 0;");
        x.call(0, false);
        each(x, 0, 4, 0, 1, 2);
        x.call(0, false);
        x.call(0, false);
        Check.due("ring(0, 4) until the tick", x, x.ring(0, 4), 2, 0);
        each(x, 0, 4, 0, 1);
        x.call(1, false);
        x.call(0, false);
        x.tick(1);
        Check.due("ring(0, 4): both were called", x, x.ring(0, 4), 0, 0);
        Check.due("ring(1, 4): both were called", x, x.ring(1, 4), 0, 0);
        each(x, 1, 4, 1);
    }

    private static void letGoOfAnEmptyQueue() {
        Doc.term(3, "if its QUEUE is above 0 one is LET GO");
        RingedLights x = Check.of("phase 0 0;");
        x.tick(5);
        Check.due("phase(0, 6)", x, x.phase(0, 6), 0, 0);
        x.come(0, 1);
        x.tick(1);
        Check.due("phase(0, 6)", x, x.phase(0, 6), 1, 0);
        Check.due("phase(0, 3)", x, x.phase(0, 3), 0, 0);
        x.tick(5);
        Check.due("phase(0, 6)", x, x.phase(0, 6), 1, 0);
        Check.due("phase(0, 3)", x, x.phase(0, 3), 0, 0);
    }

    private static void pressedByOneAsked() {
        Doc.term(3, "PRESSED 1 more, if a FOE of it is ASKED");
        RingedLights x = Check.of("phase 0 0;phase 1 0 walk 2;phase 0 1 walk 2;");
        x.tick(1);
        x.come(0, 9);
        x.come(1, 9);
        x.call(1, true);
        each(x, 0, 5, 0, 0);
        x.keep();
        x.call(2, true);
        each(x, 0, 5, 1, 2);
        x.back();
        x.keep();
        x.call(2, false);
        each(x, 0, 5, 1, 2);
        x.back();
        x.keep();
        x.come(2, 1);
        each(x, 0, 5, 1, 2);
        x.back();
        x.mark(2, 7, 1);
        each(x, 0, 5, 1, 2);
        x.mark(2, 7, 0);
        each(x, 0, 5, 2, 2);
    }

    private static void walkOrAbove() {
        Doc.term(3, "if WALKING is 1 and AGE its WALK or above, WALKING is 2");
        RingedLights x = Check.of("phase 0 0 walk 3 halt 2;");
        x.call(0, true);
        each(x, 0, 6, 1, 1, 1, 2, 2, 0);
        x = Check.of("phase 0 0 walk 20 halt 2;");
        x.call(0, true);
        each(x, 0, 6, 1, 1, 1, 1, 1, 1);
        x.mark(0, 5, 3);
        each(x, 0, 6, 2, 2, 0);
        x = Check.of("phase 0 0 recall 3 halt 2;");
        each(x, 0, 6, 1, 2, 2, 0);
    }

    private static void haltOrAbove() {
        Doc.term(3, "if WALKING is 2 and HALTED its HALT or above, WALKING is 0");
        RingedLights x = Check.of("phase 0 0 walk 1 halt 3;");
        x.call(0, true);
        each(x, 0, 7, 0, 0, 1, 2, 3, 3);
        Check.due("ring(0, 6)", x, x.ring(0, 6), 0, 0);
        x = Check.of("phase 0 0 walk 1 halt 20;");
        x.call(0, true);
        x.tick(6);
        Check.ring(x, 0, 0, 0, 5, -1, 5, 0, 2, 4);
        x.mark(0, 6, 2);
        x.tick(1);
        Check.ring(x, 0, 0, 0, 6, -1, 6, 0, 0, 5);
    }

    private static void haltOf0() {
        Doc.term(3, "if WALKING is 2 and HALTED its HALT or above, WALKING is 0");
        RingedLights x = Check.of("phase 0 0 walk 2;");
        x.call(0, true);
        each(x, 0, 6, 1, 1, 0);
        x = Check.of("phase 0 0 walk 2 halt 1;");
        x.call(0, true);
        each(x, 0, 6, 1, 1, 2, 0);
    }

    private static void yellowOrAbove() {
        Doc.term(3, "YELLOW, with AGE its YELLOW or above: RED, AGE 0.");
        String texts = "phase 0 0 min 1 pass 1 yellow 5 clear 4;phase 0 1;";
        RingedLights x = Check.of(texts);
        x.call(1, false);
        each(x, 0, 1, 0, 1, 1, 1, 1, 1, 2);
        Check.ring(x, 0, 0, 2, 0, 1);
        x = Check.of(texts);
        x.call(1, false);
        each(x, 0, 1, 0, 1, 1, 1, 1);
        x.mark(0, 3, 1);
        x.tick(1);
        Check.ring(x, 0, 0, 2, 0, 1);
        x = Check.of("phase 0 0 min 1 pass 1 yellow 1 clear 4;phase 0 1;");
        x.call(1, false);
        each(x, 0, 1, 0, 1, 2);
    }

    private static void clearOrAbove() {
        Doc.term(3, "RED (at once, too), with AGE its CLEAR or above: it WAITS, AGE 0, AT none.");
        String text = "phase 0 0 min 1 pass 1 yellow 1 clear 4;phase 0 1;";
        RingedLights x = Check.of(text);
        x.call(1, false);
        each(x, 0, 1, 0, 1, 2, 2, 2, 2, 0);
        x = Check.of(text);
        x.call(1, false);
        each(x, 0, 1, 0, 1, 2, 2, 2);
        x.mark(0, 4, 1);
        x.tick(1);
        Check.ring(x, 0, 1, 0, 0, -1);
    }

    private static void redAtOnce() {
        Doc.term(3, "RED (at once, too)");
        RingedLights x = Check.of("phase 0 0 min 1 pass 1 yellow 3 clear 0;phase 0 1;");
        x.call(1, false);
        each(x, 0, 1, 0, 1, 1, 1, 0);
        Check.ring(x, 0, 1, 0, 0, -1);
        x = Check.of("phase 0 0 min 1 pass 1 yellow 3 clear 1;phase 0 1;");
        x.call(1, false);
        each(x, 0, 1, 0, 1, 1, 1, 2, 0);
    }

    private static void doneByMin() {
        Doc.term(3, "DONE is a RING AT a GREEN PHASE, if AGE is its MIN or above");
        RingedLights x = Check.of("phase 0 0 min 4 pass 1;");
        each(x, 0, 8, 0, 0, 0, 0, 1, 1);
        x = Check.of("phase 0 0 min 30 pass 1;");
        x.tick(30);
        Check.due("ring(0, 8) at 29", x, x.ring(0, 8), 0, 0);
        x.tick(1);
        Check.due("ring(0, 8) at 30", x, x.ring(0, 8), 1, 0);
        x = Check.of("phase 0 0 min 4 pass 1;phase 0 1;");
        x.call(1, false);
        each(x, 0, 1, 0, 0, 0, 0, 1);
    }

    private static void doneByPass() {
        Doc.term(3, "without CYCLE: GAP is its PASS or above and its RECALL is not 2");
        RingedLights x = Check.of("phase 0 0 min 1 pass 3;");
        each(x, 0, 8, 0, 0, 0, 1, 1);
        x.call(0, false);
        each(x, 0, 8, 0, 0, 0, 1);
        x = Check.of("phase 0 0 min 1 pass 1;");
        each(x, 0, 8, 0, 1);
    }

    private static void doneByMax() {
        Doc.term(3, "or PRESSED is its MAX or above");
        RingedLights x = Check.of("phase 0 0 min 1 max 3;phase 0 1;");
        x.come(0, 90);
        x.call(1, false);
        each(x, 0, 1, 0, 0, 0, 1);
        x = Check.of("phase 0 0 min 1 max 60;phase 0 1;");
        x.come(0, 90);
        x.call(1, false);
        x.tick(9);
        Check.ring(x, 0, 0, 0, 8, -1, 0, 8, 0, 0, 0);
        x.mark(0, 2, 9);
        Check.due("ring(0, 8) below a MAX of 9", x, x.ring(0, 8), 0, 0);
        x.mark(0, 2, 8);
        Check.due("ring(0, 8) at a MAX of 8", x, x.ring(0, 8), 1, 0);
        x.mark(0, 2, 1);
        Check.due("ring(0, 8) above a MAX of 1", x, x.ring(0, 8), 1, 0);
        x = Check.of("phase 0 0 min 1 max 1;phase 0 1;");
        x.come(0, 90);
        x.tick(50);
        Check.ring(x, 0, 0, 0, 49, -1, 0, 0, 0, 0, 0);
    }

    private static void doneButForRecall2() {
        Doc.term(3, "its RECALL is not 2");
        RingedLights x = Check.of("phase 0 0 min 1 pass 1;");
        x.tick(5);
        int[] done = {1, 1, 0, 1};
        for (int recall = 0; recall < 4; recall++) {
            x.mark(0, 7, recall);
            Check.due("ring(0, 8) with a RECALL of " + recall, x, x.ring(0, 8), done[recall], 0);
        }
    }

    private static void doneWithNobodyWalking() {
        Doc.term(3, "WALKING is 0, and:");
        RingedLights x = Check.of("phase 0 0 walk 2 halt 2" + QUICK + ";");
        x.call(0, true);
        each(x, 0, 8, 0, 0, 0, 0, 1);
    }

    private static void doneByTheClockAlone() {
        Doc.term(3, "with CYCLE: it is FORCED (section 4), or it is not the first of its ROW and GAP is its PASS or above");
        RingedLights x = Check.of("cycle 40;phase 0 0 split 10 max 1" + QUICK.substring(0, 13) + ";phase 0 0 split 10;");
        x.mark(1, 7, 1);
        x.tick(9);
        Check.ring(x, 0, 0, 0, 8, -1, 8, 8, 0, 0, 0, 0);
        x.tick(1);
        Check.ring(x, 0, 0, 1, 0, 1);
        x = Check.of("cycle 40;phase 0 0 split 10 recall 2" + QUICK + ";");
        x.tick(9);
        Check.due("ring(0, 8) ahead of its END", x, x.ring(0, 8), 0, 0);
        x.tick(1);
        Check.due("ring(0, 8) at its END", x, x.ring(0, 8), 1, 0);
        x.tick(19);
        Check.due("ring(0, 8) less than half behind it", x, x.ring(0, 8), 1, 0);
        x.tick(1);
        Check.due("ring(0, 8) half behind it", x, x.ring(0, 8), 0, 0);
    }

    private static void doneOfOneThatIsNotTheFirst() {
        Doc.term(3, "it is not the first of its ROW and GAP is its PASS or above");
        RingedLights x = Check.of("cycle 40;phase 0 0 split 1" + QUICK + ";phase 0 1 split 20 min 1 pass 2;");
        x.call(1, false);
        x.tick(3);
        Check.ring(x, 0, 1, 0, 0, -1, 0, 0, 0, 0, 0, 0);
        x.tick(1);
        Check.ring(x, 0, 1, 0, 1, -1, 1, 0, 0, 0, 0, 0);
        x.tick(1);
        Check.ring(x, 0, 1, 0, 2, -1, 2, 0, 0, 0, 1, 0);
        // the first of its ROW is on SIDE 1, if there is none on SIDE 0
        x = Check.of("cycle 40;phase 0 1 split 20" + QUICK + ";");
        x.tick(9);
        Check.ring(x, 0, 0, 0, 8, -1, 8, 0, 0, 0, 0, 0);
    }

    private static void nextIsBehindItOnItsSide() {
        Doc.term(3, "NEXT of it: the first behind its PHASE in its ROW, on that SIDE, that is ASKED.");
        RingedLights x = Check.of("phase 0 0" + QUICK + ";phase 0 0" + QUICK + ";phase 0 0" + QUICK + ";phase 0 0" + QUICK
                + ";phase 0 1" + QUICK + ";phase 1 0 min 30;");
        x.call(1, false);
        x.tick(3);
        Check.ring(x, 0, 1, 0, 0);
        x.call(0, false);
        x.call(4, false);
        x.tick(5);
        Check.ring(x, 0, 1, 0, 5, -1, 5, 5, 0, 0, 1);
        x.call(3, false);
        x.keep();
        x.tick(1);
        Check.ring(x, 0, 1, 1, 0, 3);
        x.back();
        x.call(2, false);
        x.tick(1);
        Check.ring(x, 0, 1, 1, 0, 2);
    }

    private static void ifNoneDid() {
        Doc.term(3, "Each RING that is DONE and has a NEXT LEAVES TO that. If none did");
        RingedLights x = Check.of("phase 0 0" + QUICK + ";phase 0 0" + QUICK + ";phase 1 0" + QUICK + ";phase 1 1" + QUICK + ";");
        x.call(1, false);
        x.call(3, false);
        x.tick(2);
        Check.ring(x, 0, 0, 1, 0, 1);
        Check.ring(x, 1, 2, 0, 1, -1, 1, 1, 0, 0, 1);
        x = Check.of("phase 0 0" + QUICK + ";phase 0 0" + QUICK + ";phase 1 0" + QUICK + ";phase 1 0" + QUICK + ";");
        x.call(1, false);
        x.call(3, false);
        x.tick(2);
        Check.ring(x, 0, 0, 1, 0, 1);
        Check.ring(x, 1, 2, 1, 0, 3);
    }

    private static void ifEachThatHoldsIsDone() {
        Doc.term(3, "and each RING that HOLDS a PHASE is DONE, and one does");
        RingedLights x = Check.of("phase 0 0" + QUICK + ";phase 0 1;phase 1 0 min 4;");
        x.call(1, false);
        x.tick(4);
        Check.ring(x, 0, 0, 0, 3, -1, 3, 3, 0, 0, 1);
        Check.ring(x, 1, 2, 0, 3, -1, 3, 3, 0, 0, 0);
        x.tick(1);
        Check.ring(x, 0, 0, 1, 0, 1);
        Check.ring(x, 1, 2, 1, 0, -1);
        // a yellow one holds, too; one that waits does not
        x = Check.of("phase 0 0" + QUICK + ";phase 0 0" + QUICK + ";phase 1 0" + QUICK + ";phase 1 1" + QUICK + ";");
        x.mark(0, 3, 2);
        x.call(1, false);
        x.call(3, false);
        x.tick(3);
        Check.ring(x, 0, 0, 1, 1, 1);
        Check.ring(x, 1, 2, 0, 2, -1, 2, 2, 0, 0, 1);
        x.tick(1);
        Check.ring(x, 0, -1, 3, 0, -1);
        Check.ring(x, 1, 2, 1, 0, 3);
    }

    private static void ifOneDoes() {
        Doc.term(3, "and one does");
        RingedLights x = Check.of(TWO);
        x.call(1, false);
        x.tick(1);
        Check.ring(x, 0, 0, 0, 0, -1);
        Check.due("phase(1, 4)", x, x.phase(1, 4), 1, 0);
    }

    private static void toTheOtherSide() {
        Doc.term(3, "each RING GOES TO the first of its ROW there that is ASKED, else the first there, else none");
        String ring0 = "phase 0 0" + QUICK + ";phase 0 1" + QUICK + ";phase 0 1" + QUICK + ";";
        RingedLights x = Check.of(ring0 + "phase 1 0" + QUICK + ";phase 1 1" + QUICK + ";phase 1 1" + QUICK + ";");
        x.call(2, false);
        x.keep();
        x.tick(2);
        Check.ring(x, 0, 0, 1, 0, 2);
        Check.ring(x, 1, 3, 1, 0, 4);
        x.back();
        x.call(1, false);
        x.call(5, false);
        x.tick(2);
        Check.ring(x, 0, 0, 1, 0, 1);
        Check.ring(x, 1, 3, 1, 0, 5);
        x = Check.of(ring0 + "phase 1 0" + QUICK + ";");
        x.call(2, false);
        x.tick(2);
        Check.ring(x, 0, 0, 1, 0, 2);
        Check.ring(x, 1, 3, 1, 0, -1);
        x.tick(1);
        Check.ring(x, 1, -1, 3, 0, -1);
        x = Check.of(TWO);
        x.tick(9);
        Check.ring(x, 0, 0, 0, 8, -1, 8, 0, 0, 0, 1);
    }

    private static void toThisSide() {
        Doc.term(3, "else each RING that has, of its ROW on this SIDE, a PHASE ASKED that it is not AT GOES TO the first such one.");
        RingedLights x = Check.of("phase 0 0" + QUICK + ";phase 0 0" + QUICK + ";phase 0 0" + QUICK + ";phase 1 0" + QUICK
                + ";phase 1 0" + QUICK + ";");
        x.call(2, false);
        x.tick(3);
        Check.ring(x, 0, 2, 0, 0, -1);
        x.mark(2, 7, 1);
        x.tick(4);
        Check.ring(x, 0, 2, 0, 4, -1, 4, 0, 0, 0, 1);
        x.call(1, false);
        x.call(0, false);
        x.tick(1);
        Check.ring(x, 0, 2, 1, 0, 0);
        Check.ring(x, 1, 3, 0, 7, -1, 7, 0, 0, 0, 1);
        // so ring 1, if it has one and ring 0 has none
        x = Check.of("phase 1 0" + QUICK + ";phase 1 0" + QUICK + ";phase 0 0" + QUICK + ";");
        x.call(1, false);
        x.tick(3);
        Check.ring(x, 1, 1, 0, 0, -1);
        x.call(0, false);
        x.tick(1);
        Check.ring(x, 1, 1, 1, 0, 0);
        Check.ring(x, 0, 2, 0, 3, -1);
    }

    private static void waitsForAFoe() {
        Doc.term(3, "if the other RING does not HOLD a FOE of that, it BECOMES GREEN.");
        String ring1 = "phase 1 0 min 1 pass 1 yellow 2 clear 2;phase 1 1;";
        RingedLights x = Check.of("phase 0 0" + QUICK + ";phase 0 1;" + ring1);
        x.call(1, false);
        x.tick(3);
        Check.ring(x, 0, -1, 3, 0, 1);
        Check.ring(x, 1, 2, 1, 1, 3);
        x.tick(1);
        Check.ring(x, 0, -1, 3, 0, 1);
        Check.ring(x, 1, 2, 2, 0, 3);
        x.tick(1);
        Check.ring(x, 0, -1, 3, 0, 1);
        Check.ring(x, 1, 2, 2, 1, 3);
        x.tick(1);
        Check.ring(x, 0, 1, 0, 0, -1);
        Check.ring(x, 1, 3, 0, 0, -1);
    }

    private static void monitorOfTwoFoes() {
        Doc.term(3, "If two of them are FOES, and there is no FLASH, there is one");
        RingedLights x = Check.of("phase 0 0;phase 1 0;phase 0 1;phase 1 1;");
        x.stick(2, true);
        x.stick(3, true);
        // the train sends the rings to the two that stick
        x.brakes(0, 0, 0, 12, 0, 0);
        x.ask(0);
        x.tick(1);
        Check.due("many(5): two friends", x, x.many(5), 0, 0);
        Check.due("sum(5)", x, x.sum(5), 12, 0);
        x.stick(0, true);
        Check.due("many(5): not ahead of a tick", x, x.many(5), 0, 0);
        x.tick(1);
        Check.due("many(5): three, two of them foes", x, x.many(5), 1, 0);
        x = Check.of("phase 0 0;phase 0 1;");
        x.tick(1);
        x.stick(0, true);
        x.tick(1);
        Check.due("many(5): one that is green and sticks", x, x.many(5), 0, 0);
        x.stick(0, false);
        x.stick(1, true);
        x.tick(1);
        Check.due("many(5): one that is green and one that sticks", x, x.many(5), 1, 0);
    }

    private static void monitorOfTheLeastWithAFoe() {
        Doc.term(6, "4: the least PHASE SHOWN with a FOE SHOWN");
        RingedLights x = Check.of("phase 1 0;phase 0 0;phase 0 0;phase 0 1;");
        x.tick(1);
        x.stick(2, true);
        Check.due("sum(5)", x, x.sum(5), 7, 0);
        x.tick(1);
        Check.event(x, 0, 4, 2, 1);
        x = Check.of("phase 1 0;phase 0 0;phase 0 0;phase 0 1;");
        x.tick(1);
        x.stick(3, true);
        x.tick(1);
        Check.event(x, 0, 4, 2, 0);
    }

    private static void monitorOnceAlone() {
        Doc.term(3, "and there is no FLASH, there is one: the RINGS are AT none, WAIT, AGE 0, TO none; no BREAK is begun");
        RingedLights x = Check.of("phase 0 0;phase 0 1;phase 1 0;break 0 track 0 0 dwell 4 9 cut 0;");
        x.ask(0);
        x.tick(3);
        Check.ring(x, 1, 2, 0, 2, -1);
        x.stick(0, true);
        x.stick(1, true);
        x.tick(3);
        Check.event(x, 0, 4, 4, 0);
        Check.event(x, 1, 0, 1, 2);
        Check.event(x, 2, 2, 1, 0);
        Check.refused("event(3, 0)", x, x.event(3, 0), 5);
        Check.ring(x, 0, -1, 3, 0, -1, 0, 0, 0, 0, 0, 0);
        Check.ring(x, 1, -1, 3, 0, -1, 0, 0, 0, 0, 0, 0);
        Check.due("many(7)", x, x.many(7), -1, 0);
        Check.due("many(8)", x, x.many(8), 0, 0);
        Check.due("many(9)", x, x.many(9), 0, 0);
    }

    private static void waitedByAllQueues() {
        Doc.term(3, "(9) WAITED is more by all QUEUES.");
        RingedLights x = Check.of("phase 0 0;phase 0 1;");
        x.tick(3);
        Check.due("sum(1)", x, x.sum(1), 0, 0);
        x.come(0, 2);
        x.come(1, 3);
        int[] waited = {4, 7, 10, 13};
        for (int due : waited) {
            x.tick(1);
            Check.due("sum(1)", x, x.sum(1), due, 0);
        }
    }

    // ---- section 4

    private static void clockAtCycleIs0() {
        Doc.term(4, "CLOCK: 1 more, at CYCLE 0.");
        for (int cycle : new int[] {20, 21, 240}) {
            RingedLights x = Check.of("cycle " + cycle + ";");
            x.tick(cycle - 1);
            Check.due("many(4)", x, x.many(4), cycle - 1, 0);
            x.tick(1);
            Check.due("many(4) at the cycle", x, x.many(4), 0, 0);
            x.tick(1);
            Check.due("many(4) behind it", x, x.many(4), 1, 0);
        }
    }

    private static void dueBelow0() {
        Doc.term(4, "Then DUE: what is left of TICK less OFFSET by CYCLE (0 and above)");
        RingedLights x = Check.of("cycle 240;offset 239;");
        Check.due("instep()", x, x.instep(), 4, 0);
        x.tick(3);
        Check.due("many(4)", x, x.many(4), 3, 0);
        x.tick(1);
        Check.due("many(4)", x, x.many(4), 5, 0);
        Check.due("instep()", x, x.instep(), 0, 0);
        x = Check.of("cycle 20;offset 239;");
        x.tick(4);
        Check.due("many(4): 239 by 20 is 19", x, x.many(4), 5, 0);
        x = Check.of("cycle 20;offset 220;");
        x.tick(4);
        Check.due("many(4): 220 by 20 is 0", x, x.many(4), 4, 0);
    }

    private static void aheadBelow0() {
        Doc.term(4, "AHEAD: what is left of DUE less CLOCK by CYCLE.");
        RingedLights x = Check.of("cycle 40;offset 1;");
        Check.due("instep(): 39 ahead is one back", x, x.instep(), 4, 0);
        x.tick(4);
        Check.due("many(4)", x, x.many(4), 3, 0);
        x = Check.of("cycle 240;offset 120;");
        Check.due("instep(): half a cycle", x, x.instep(), 480, 0);
    }

    private static void everyFourthTick() {
        Doc.term(4, "If AHEAD is not 0 and 4 divides the TICK");
        RingedLights x = Check.of("cycle 40;offset 10;");
        int[] clocks = {1, 2, 3, 3, 4, 5, 6, 6, 7, 8, 9, 9};
        for (int due : clocks) {
            x.tick(1);
            Check.due("tick " + x.many(1) + ": many(4)", x, x.many(4), due, 0);
        }
        x = Check.of("cycle 40;");
        x.tick(4);
        Check.due("many(4): AHEAD is 0", x, x.many(4), 4, 0);
    }

    private static void aheadOfHalfAndMore() {
        Doc.term(4, "CLOCK 1 more (round), if AHEAD is half of CYCLE or less, else 1 less (round).");
        Doc.term(4, "(What is left is 0 and above; halves are rounded down.)");
        int[][] rows = {{40, 21, 5}, {40, 20, 5}, {40, 19, 3}, {21, 12, 5}, {21, 11, 5}, {21, 10, 3}, {240, 120, 5},
            {240, 119, 3}, {20, 10, 5}, {20, 9, 3}};
        for (int[] row : rows) {
            RingedLights x = Check.of("cycle " + row[0] + ";offset " + row[1] + ";");
            x.tick(4);
            Check.due("many(4) of cycle " + row[0] + ", offset " + row[1], x, x.many(4), row[2], 0);
        }
    }

    private static void clockRoundByAStep() {
        Doc.term(4, "CLOCK 1 more (round), if AHEAD is half of CYCLE or less, else 1 less (round).");
        RingedLights x = Check.of("cycle 25;");
        x.tick(23);
        x.clock(1, 24);
        x.tick(1);
        Check.due("many(4): one more than 24", x, x.many(4), 0, 0);
        x = Check.of("cycle 25;");
        x.tick(99);
        x.clock(1, 1);
        x.tick(1);
        Check.due("many(4): one less than 0", x, x.many(4), 24, 0);
    }

    private static void forced(int cycle, int split, int first, int last) {
        RingedLights x = Check.of("cycle " + cycle + ";phase 0 0 split " + split + ";");
        for (int tick = 1; tick <= 2 * cycle; tick++) {
            x.tick(1);
            int clock = tick % cycle;
            boolean due = first <= last ? clock >= first && clock <= last : clock >= first || clock <= last;
            Check.due("cycle " + cycle + ", split " + split + ", clock " + clock, x, x.ring(0, 9), due ? 1 : 0, 0);
        }
    }

    private static void forcedBelowHalf() {
        Doc.term(4, "FORCED: what is left of CLOCK less END by CYCLE is below half of CYCLE.");
        forced(40, 10, 10, 29);
        forced(21, 5, 5, 14);
        forced(20, 0, 0, 9);
    }

    private static void forcedRound() {
        Doc.term(4, "what is left of CLOCK less END by CYCLE");
        forced(40, 35, 35, 14);
        forced(40, 40, 0, 19);
        forced(20, 59, 19, 8);
        forced(21, 20, 20, 8);
    }

    // ---- section 6

    private static int comes(String text, int phase, int seed) {
        RingedLights x = Check.of(text);
        x.run(1, seed);
        return x.phase(phase, 3);
    }

    private static void drawBelowTheRate() {
        Doc.term(6, "a draw by 60; below its RATE its QUEUE is 1 more");
        // of the seed 3 the first draw is 19, of 0 it is 12, of 9,999 it is 52
        Check.due("a draw of 19 by a rate of 19", comes("phase 0 0 rate 19;", 0, 3), 0);
        Check.due("a draw of 19 by a rate of 20", comes("phase 0 0 rate 20;", 0, 3), 1);
        Check.due("a draw of 12 by a rate of 12", comes("phase 0 0 rate 12;", 0, 0), 0);
        Check.due("a draw of 12 by a rate of 13", comes("phase 0 0 rate 13;", 0, 0), 1);
        Check.due("a draw of 52 by a rate of 30", comes("phase 0 0 rate 30;", 0, 9999), 0);
        Check.due("a draw of 12 by none", comes("phase 0 0;", 0, 0), 0);
    }

    private static void drawRoundedDown() {
        Doc.term(6, "the draw by m is s times m by 233,280, rounded down");
        // the third draw of the seed 5,397 is 1 even, the first of 3,718 is 26 and 3,887 of 3,888
        Check.due("a draw of 1 even by a rate of 1", comes("phase 0 0;phase 0 0;phase 0 0 rate 1;", 2, 5397), 0);
        Check.due("a draw of 1 even by a rate of 2", comes("phase 0 0;phase 0 0;phase 0 0 rate 2;", 2, 5397), 1);
        Check.due("a draw of all but 27 by a rate of 26", comes("phase 0 0 rate 26;", 0, 3718), 0);
        Check.due("a draw of all but 27 by a rate of 27", comes("phase 0 0 rate 27;", 0, 3718), 1);
    }

    private static void drawOfEachPhase() {
        Doc.term(6, "of each PHASE, by numbers, a draw by 60");
        // the seed 3: 19, 13, 56, 23, 39, 15
        String text = "phase 0 0 rate 0;phase 1 0 rate 14;phase 0 1 rate 30;phase 1 1 rate 24;phase 0 0;phase 0 0 rate 15;";
        int[] queues = {0, 1, 0, 1, 0, 0};
        for (int phase = 0; phase < 6; phase++) {
            Check.due("phase(" + phase + ", 3)", comes(text, phase, 3), queues[phase]);
        }
    }

    private static void drawsGoOnThroughARun() {
        Doc.term(6, "Draws: s, at first the seed, becomes what is left of s times 9,301 and 49,297 by 233,280");
        // the seed 0: 12, 42, 32, 44, 49, 3
        RingedLights x = Check.of("phase 0 0 rate 13;");
        x.run(6, 0);
        Check.due("sum(0) and sum(2): two of six came", x.sum(0) + x.sum(2), 2);
        x.run(5, 0);
        Check.due("with the same seed the same draws", x.sum(0) + x.sum(2), 3);
        for (int i = 0; i < 4; i++) {
            x.run(1, 0);
        }
        Check.due("each run begins with its seed", x.sum(0) + x.sum(2), 7);
        // the seed 9: 34, 13, 42, 40, 20, 37, 8, 36, 11
        x = Check.of("phase 0 0 rate 12;");
        int[] ticks = {6, 7, 9};
        int[] came = {0, 1, 3};
        for (int i = 0; i < 3; i++) {
            x.run(ticks[i], 9);
            Check.due("a draw for each phase, and no other", x.sum(0) + x.sum(2), came[i]);
        }
    }

    private static void queueOf99Stays() {
        Doc.term(6, "its QUEUE is 1 more (99 at most)");
        RingedLights x = Check.of("phase 0 0;phase 0 0 rate 14;");
        x.come(1, 98);
        x.run(1, 3);
        Check.due("phase(1, 3)", x, x.phase(1, 3), 99, 0);
        x.run(1, 3);
        Check.due("phase(1, 3)", x, x.phase(1, 3), 99, 0);
        Check.due("sum(1)", x, x.sum(1), 198, 0);
    }

    private static void tickHasNoComers() {
        Doc.term(6, "tick() has no comers.");
        RingedLights x = Check.of("phase 0 0 rate 30;phase 0 1 rate 30;");
        x.tick(300);
        Check.due("sum(0)", x, x.sum(0), 0, 0);
        Check.due("sum(2)", x, x.sum(2), 0, 0);
    }

    // ---- promises 22 and 23

    private static RingedLights busy() {
        RingedLights x = Check.of("phase 0 0 rate 30;phase 0 1 rate 30;cycle 50;");
        x.come(0, 9);
        x.run(5, 5);
        return x;
    }

    private static void tickOfHowMany() {
        Doc.promise(22, "TICKS go by (1 to 300): the TICK (1).");
        RingedLights x = new RingedLights();
        Check.due("tick(1)", x, x.tick(1), 1, 0);
        Check.due("tick(300)", x, x.tick(300), 301, 0);
        for (int many : new int[] {0, -1, 301, Integer.MIN_VALUE, Integer.MAX_VALUE}) {
            Check.refused("tick(" + many + ")", x, x.tick(many), 1);
        }
        Check.due("many(1)", x, x.many(1), 301, 0);
        Still.refused("tick(0)", TickBoundsTest::busy, y -> y.tick(0), 1);
        Still.refused("tick(301)", TickBoundsTest::busy, y -> y.tick(301), 1);
    }

    private static void runOfHowMany() {
        Doc.promise(23, "RUN of TICKS (1 to 300)");
        RingedLights x = new RingedLights();
        Check.due("run(1, 7)", x, x.run(1, 7), 0, 0);
        Check.due("run(300, 7)", x, x.run(300, 7), 0, 0);
        for (int many : new int[] {0, -1, 301, Integer.MIN_VALUE, Integer.MAX_VALUE}) {
            Check.refused("run(" + many + ", 7)", x, x.run(many, 7), 1);
        }
        Check.due("many(1)", x, x.many(1), 301, 0);
        Still.refused("run(0, 7)", TickBoundsTest::busy, y -> y.run(0, 7), 1);
        Still.refused("run(301, 7)", TickBoundsTest::busy, y -> y.run(301, 7), 1);
    }

    private static void runOfWhichSeed() {
        Doc.promise(23, "by a seed (0 to 9,999)");
        RingedLights x = new RingedLights();
        Check.due("run(1, 0)", x, x.run(1, 0), 0, 0);
        Check.due("run(1, 9999)", x, x.run(1, 9999), 0, 0);
        for (int seed : new int[] {-1, 10000, Integer.MIN_VALUE, Integer.MAX_VALUE}) {
            Check.refused("run(1, " + seed + ")", x, x.run(1, seed), 1);
        }
        Still.refused("run(1, -1)", TickBoundsTest::busy, y -> y.run(1, -1), 1);
        Still.refused("run(1, 10000)", TickBoundsTest::busy, y -> y.run(1, 10000), 1);
    }

    private static void runTellsItsOwn() {
        Doc.promise(23, "how many were LET GO in it (1).");
        RingedLights x = Check.of("phase 0 0;");
        x.come(0, 5);
        Check.due("run(1, 0): it becomes green", x, x.run(1, 0), 0, 0);
        Check.due("run(2, 0)", x, x.run(2, 0), 2, 0);
        Check.due("run(300, 0)", x, x.run(300, 0), 3, 0);
        Check.due("run(300, 0)", x, x.run(300, 0), 0, 0);
        Check.due("sum(0)", x, x.sum(0), 5, 0);
    }
}
