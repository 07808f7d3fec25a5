/** Promises 7, 8, 11, 12, 22 and 23: what rings, phases, the clock, breaks and the monitor do in ticks. */
public final class TickTest {
    private static final String QUICK = " min 1 pass 1 yellow 1 clear 0";

    private TickTest() {
    }

    public static void main(String[] args) {
        startOnTheFirstSideThereIs();
        yellowAndAllRed();
        gapEndsAGreen();
        callOnGreenIsForItsGapAlone();
        mostEndsAGreen();
        pressedByFoesAlone();
        recalls();
        onFoot();
        onFootWaitsStill();
        onFootWithoutWalk();
        nextBehindItInTheRow();
        backInTheRow();
        waitingRingTurnsBackToo();
        ringsGoInStepOverTheBarrier();
        barrierWithNothingThere();
        barrierToTheFirstAsked();
        yellowHoldsUpTheOther();
        clockGoesRound();
        clockIsBroughtByTheNearerWay();
        endsAndForced();
        notTheFirstLeavesByItsGap();
        maxIsNothingWithACycle();
        monitor();
        monitorStaysInFlash();
        comers();
        comersOfAFullQueue();
        comersInFlash();
        tickAndRunLookAtTheirNumbers();
        lookingLooksAtItsNumbers();
        thirtyTwoEvents();
        Check.end();
    }

    private static void startOnTheFirstSideThereIs() {
        RingedLights x = Check.of("phase 0 1;phase 0 0;phase 1 1;");
        Check.ring(x, 0, -1, 3, 0, 1, 0, 0, 0, 0, 0, 0);
        Check.ring(x, 1, -1, 3, 0, -1);
        x = Check.of("phase 1 1;phase 1 1;phase 0 1;");
        Check.ring(x, 0, -1, 3, 0, 2);
        Check.ring(x, 1, -1, 3, 0, 0);
        Check.due("tick(1)", x, x.tick(1), 1, 0);
        Check.ring(x, 0, 2, 0, 0, -1, 0, 0, 0, 0, 0, 0);
        Check.ring(x, 1, 0, 0, 0, -1, 0, 0, 0, 0, 0, 0);
        Check.event(x, 0, 0, 1, 0);
        Check.event(x, 1, 0, 1, 2);
    }

    private static void yellowAndAllRed() {
        RingedLights x = Check.of("phase 0 0 min 2 pass 1 yellow 2 clear 2;phase 0 1 yellow 1 clear 0 min 1 pass 1;");
        x.call(1, false);
        x.tick(2);
        Check.ring(x, 0, 0, 0, 1, -1, 1, 1, 0, 0, 0, 0);
        x.tick(1);
        Check.ring(x, 0, 0, 1, 0, 1, 0, 0, 0, 0, 0, 0);
        Check.due("phase(0, 2)", x.phase(0, 2), 1);
        Check.due("sum(5)", x.sum(5), 1);
        Check.event(x, 0, 1, 3, 0);
        x.tick(1);
        Check.ring(x, 0, 0, 1, 1, 1);
        x.tick(1);
        Check.ring(x, 0, 0, 2, 0, 1);
        Check.due("phase(0, 2)", x.phase(0, 2), 0);
        Check.due("sum(5)", x.sum(5), 0);
        x.tick(1);
        Check.ring(x, 0, 0, 2, 1, 1);
        x.tick(1);
        Check.ring(x, 0, 1, 0, 0, -1);
        Check.due("phase(1, 4)", x.phase(1, 4), 0);
        x.call(0, false);
        x.tick(1);
        Check.ring(x, 0, 1, 1, 0, 0);
        x.tick(1);
        Check.ring(x, 0, 0, 0, 0, -1);
        Check.event(x, 0, 0, 9, 0);
        Check.event(x, 1, 1, 8, 1);
    }

    private static void gapEndsAGreen() {
        RingedLights x = Check.of("phase 0 0 min 1 pass 3;phase 0 1;");
        x.come(0, 2);
        x.call(1, false);
        x.tick(2);
        Check.ring(x, 0, 0, 0, 1, -1, 0, 1);
        Check.due("phase(0, 6)", x.phase(0, 6), 1);
        Check.due("phase(0, 3)", x.phase(0, 3), 1);
        x.tick(1);
        Check.ring(x, 0, 0, 0, 2, -1, 0, 2);
        Check.due("sum(0)", x.sum(0), 2);
        x.tick(2);
        Check.ring(x, 0, 0, 0, 4, -1, 2, 4, 0, 0, 0);
        x.tick(1);
        Check.ring(x, 0, 0, 1, 0, 1);
        Check.due("sum(1)", x.sum(1), 3);
    }

    private static void callOnGreenIsForItsGapAlone() {
        RingedLights x = Check.of("phase 0 0 min 1 pass 5 walk 4 halt 4;phase 0 1;");
        x.tick(3);
        Check.ring(x, 0, 0, 0, 2, -1, 2);
        Check.due("call(0, false)", x, x.call(0, false), 0);
        Check.due("phase(0, 4)", x.phase(0, 4), 0);
        Check.due("call(0, false) once more", x, x.call(0, false), 0);
        Check.ring(x, 0, 0, 0, 2, -1, 2);
        x.tick(1);
        Check.ring(x, 0, 0, 0, 3, -1, 0);
        x.tick(1);
        Check.ring(x, 0, 0, 0, 4, -1, 1);
        x.call(0, true);
        x.tick(1);
        Check.ring(x, 0, 0, 0, 5, -1, 2, 0, 0);
        x.call(1, false);
        x.call(0, false);
        x.keep();
        x.tick(1);
        Check.ring(x, 0, 0, 0, 6, -1, 0, 1);
        x.back();
        x.tick(1);
        Check.ring(x, 0, 0, 0, 6, -1, 0, 1);
    }

    private static void mostEndsAGreen() {
        RingedLights x = Check.of("phase 0 0 min 1 max 3;phase 0 1;");
        x.come(0, 50);
        x.tick(10);
        Check.ring(x, 0, 0, 0, 9, -1, 0, 0, 0, 0, 0);
        x.call(1, false);
        x.tick(2);
        Check.ring(x, 0, 0, 0, 11, -1, 0, 2, 0, 0, 0);
        x.tick(1);
        Check.ring(x, 0, 0, 1, 0, 1, 0, 0);
        Check.due("phase(0, 6)", x.phase(0, 6), 12);
        x = Check.of("phase 0 0 min 9 max 3;phase 0 1;");
        x.come(0, 50);
        x.call(1, false);
        x.tick(9);
        Check.ring(x, 0, 0, 0, 8, -1, 0, 8, 0, 0, 0);
        x.tick(1);
        Check.ring(x, 0, 0, 1, 0, 1);
    }

    private static void pressedByFoesAlone() {
        RingedLights x = Check.of("phase 0 0;phase 1 0;phase 1 0;phase 0 1;");
        x.come(0, 60);
        x.come(1, 60);
        x.tick(3);
        Check.ring(x, 0, 0, 0, 2, -1, 0, 0);
        x.call(2, false);
        x.tick(1);
        Check.ring(x, 0, 0, 0, 3, -1, 0, 0);
        Check.ring(x, 1, 1, 0, 3, -1, 0, 1);
        x.come(3, 1);
        x.tick(1);
        Check.ring(x, 0, 0, 0, 4, -1, 0, 1);
        Check.ring(x, 1, 1, 0, 4, -1, 0, 2);
    }

    private static void recalls() {
        RingedLights x = Check.of("phase 0 0" + QUICK + ";phase 0 1 recall 1" + QUICK + ";");
        Check.due("phase(1, 4)", x.phase(1, 4), 1);
        Check.due("phase(1, 5)", x.phase(1, 5), 0);
        x.tick(3);
        Check.ring(x, 0, 1, 0, 0);
        x.tick(20);
        Check.ring(x, 0, 1, 0, 20, -1, 20, 0);
        Check.due("phase(1, 4) while it is green", x.phase(1, 4), 1);

        x = Check.of("phase 0 0 recall 2 max 4" + QUICK + ";phase 0 1" + QUICK + ";");
        x.tick(30);
        Check.ring(x, 0, 0, 0, 29, -1, 29, 0, 0, 0, 0);
        x.call(1, false);
        x.tick(3);
        Check.ring(x, 0, 0, 0, 32, -1, 32, 3, 0, 0, 0);
        x.tick(1);
        Check.ring(x, 0, 0, 1, 0, 1);
        x.tick(1);
        Check.ring(x, 0, 1, 0, 0);

        x = Check.of("phase 0 0 recall 3 walk 2 halt 1" + QUICK + ";phase 0 1 recall 1" + QUICK + ";");
        Check.due("phase(0, 5)", x.phase(0, 5), 1);
        Check.due("phase(0, 4)", x.phase(0, 4), 1);
        x.tick(1);
        Check.ring(x, 0, 0, 0, 0, -1, 0, 0, 1, 0, 0);
        Check.due("phase(0, 5) while it is green", x.phase(0, 5), 1);
        x.tick(1);
        Check.ring(x, 0, 0, 0, 1, -1, 1, 1, 1, 0, 0);
        x.tick(1);
        Check.ring(x, 0, 0, 0, 2, -1, 2, 2, 2, 0, 0);
        x.tick(1);
        Check.ring(x, 0, 0, 1, 0, 1);
        x.tick(3);
        Check.ring(x, 0, 0, 0, 0, -1, 0, 0, 1);
    }

    private static void onFoot() {
        RingedLights x = Check.of("phase 0 0 walk 3 halt 2" + QUICK + ";phase 0 1 walk 2" + QUICK + ";");
        Check.due("call(1, true)", x, x.call(1, true), 0);
        Check.due("phase(1, 5)", x.phase(1, 5), 1);
        Check.due("phase(1, 4)", x.phase(1, 4), 0);
        x.tick(1);
        Check.ring(x, 0, 0, 0, 0, -1, 0, 0, 0);
        x.tick(1);
        Check.ring(x, 0, 0, 1, 0, 1);
        x.tick(1);
        Check.ring(x, 0, 1, 0, 0, -1, 0, 0, 1, 0);
        Check.due("phase(1, 5)", x.phase(1, 5), 0);
        x.call(0, true);
        x.tick(1);
        Check.ring(x, 0, 1, 0, 1, -1, 1, 1, 1, 0, 0);
        // with a HALT of 0 nobody halts: they go, and are gone
        x.tick(1);
        Check.ring(x, 0, 1, 1, 0, 0, 0, 0, 0);
        x.tick(1);
        Check.ring(x, 0, 0, 0, 0, -1, 0, 0, 1, 0);
        x.call(1, false);
        x.tick(3);
        Check.ring(x, 0, 0, 0, 3, -1, 3, 3, 2, 0, 0);
        x.tick(1);
        Check.ring(x, 0, 0, 0, 4, -1, 4, 4, 2, 1, 0);
        x.tick(1);
        Check.ring(x, 0, 0, 1, 0, 1);
    }

    private static void onFootWaitsStill() {
        RingedLights x = Check.of("phase 0 0 walk 3" + QUICK + ";phase 0 1" + QUICK + ";");
        x.tick(2);
        Check.due("call(0, true) on a green one", x, x.call(0, true), 0);
        Check.due("call(0, true) once more", x, x.call(0, true), 4);
        Check.due("phase(0, 5)", x.phase(0, 5), 1);
        Check.due("phase(0, 4)", x.phase(0, 4), 0);
        x.tick(9);
        Check.ring(x, 0, 0, 0, 10, -1, 10, 0, 0);
        x.call(1, false);
        x.tick(1);
        Check.ring(x, 0, 0, 1, 0, 1);
        x.tick(1);
        Check.ring(x, 0, 1, 0, 0);
        x.tick(2);
        Check.ring(x, 0, 0, 0, 0, -1, 0, 0, 1);
        Check.due("phase(0, 5)", x.phase(0, 5), 0);
    }

    private static void onFootWithoutWalk() {
        RingedLights x = Check.of("phase 0 0 walk 3" + QUICK + ";phase 0 1 recall 3" + QUICK + ";");
        Check.due("phase(1, 5): its RECALL is 3", x.phase(1, 5), 1);
        x.tick(3);
        Check.ring(x, 0, 1, 0, 0, -1, 0, 0, 1, 0, 0);
        x.tick(1);
        Check.ring(x, 0, 1, 0, 1, -1, 1, 0, 0, 0, 1);
        x.call(0, true);
        x.mark(0, 5, 0);
        Check.due("phase(0, 5) without WALK", x.phase(0, 5), 0);
        x.tick(20);
        Check.ring(x, 0, 1, 0, 21);
        x.call(0, false);
        x.tick(2);
        Check.ring(x, 0, 0, 0, 0, -1, 0, 0, 0);
        x.mark(0, 5, 3);
        Check.due("phase(0, 5): no call on foot waits any more", x.phase(0, 5), 0);
    }

    private static void nextBehindItInTheRow() {
        RingedLights x = Check.of("phase 0 0" + QUICK + ";phase 0 0" + QUICK + ";phase 1 0 min 6;phase 0 0" + QUICK
                + ";phase 0 0" + QUICK + ";phase 0 1" + QUICK + ";");
        x.call(5, false);
        x.call(4, false);
        x.call(3, false);
        x.tick(3);
        Check.ring(x, 0, 3, 0, 0);
        x.call(1, false);
        x.tick(2);
        Check.ring(x, 0, 4, 0, 0);
        x.tick(1);
        // none is asked behind phase 4, and ring 1 has its least green yet to go
        Check.ring(x, 0, 4, 0, 1, -1, 1, 1, 0, 0, 1);
        Check.ring(x, 1, 2, 0, 5);
        x.tick(1);
        Check.ring(x, 0, 4, 1, 0, 5);
        Check.ring(x, 1, 2, 1, 0, -1);
    }

    private static void backInTheRow() {
        RingedLights x = Check.of("phase 0 0" + QUICK + ";phase 0 0" + QUICK + ";phase 0 0" + QUICK + ";");
        x.call(2, false);
        x.tick(3);
        Check.ring(x, 0, 2, 0, 0);
        x.call(1, false);
        x.call(0, false);
        x.tick(1);
        Check.ring(x, 0, 2, 1, 0, 0);
        x.tick(1);
        Check.ring(x, 0, 0, 0, 0);
        x.tick(2);
        Check.ring(x, 0, 1, 0, 0);
        x.call(1, true);
        x.tick(5);
        Check.ring(x, 0, 1, 0, 5);
    }

    private static void waitingRingTurnsBackToo() {
        RingedLights x = Check.of("phase 0 0" + QUICK + ";phase 0 0" + QUICK + ";phase 1 0" + QUICK + ";phase 1 0" + QUICK
                + ";break 0 track 0 0 dwell 1 1 cut 0;");
        x.tick(2);
        x.ask(0);
        x.tick(2);
        Check.ring(x, 0, 0, 0, 3);
        Check.ring(x, 1, -1, 3, 0, -1);
        Check.due("many(8)", x.many(8), 4);
        x.let(0);
        x.call(3, false);
        x.tick(1);
        // the end of the break sends it to its first, and the same tick's choice on to the one that is asked
        Check.ring(x, 1, 3, 0, 0, -1);
        Check.ring(x, 0, 0, 0, 4);
    }

    private static void ringsGoInStepOverTheBarrier() {
        RingedLights x = Check.of("phase 0 0;phase 0 1;phase 1 0 min 9;phase 1 1;");
        x.call(1, false);
        x.tick(9);
        Check.ring(x, 0, 0, 0, 8, -1, 8, 8, 0, 0, 1);
        Check.ring(x, 1, 2, 0, 8, -1, 8, 8, 0, 0, 0);
        x.tick(1);
        Check.ring(x, 0, 0, 1, 0, 1);
        Check.ring(x, 1, 2, 1, 0, 3);
        Check.event(x, 0, 1, 10, 2);
        Check.event(x, 1, 1, 10, 0);
        Check.due("sum(5)", x.sum(5), 5);
        x.tick(4);
        Check.ring(x, 0, 1, 0, 0);
        Check.ring(x, 1, 3, 0, 0);
        Check.due("sum(5)", x.sum(5), 10);
    }

    private static void barrierWithNothingThere() {
        RingedLights x = Check.of("phase 0 0" + QUICK + ";phase 0 1" + QUICK + ";phase 1 0" + QUICK + ";");
        x.call(1, false);
        x.tick(2);
        Check.ring(x, 1, 2, 1, 0, -1);
        x.tick(1);
        Check.ring(x, 0, 1, 0, 0);
        Check.ring(x, 1, -1, 3, 0, -1);
        x.call(2, false);
        x.tick(1);
        Check.ring(x, 0, 1, 1, 0, 0);
        Check.ring(x, 1, -1, 3, 0, 2);
        x.tick(1);
        Check.ring(x, 0, 0, 0, 0);
        Check.ring(x, 1, 2, 0, 0);
    }

    private static void barrierToTheFirstAsked() {
        RingedLights x = Check.of("phase 0 0" + QUICK + ";phase 0 1" + QUICK + ";phase 0 1" + QUICK + ";phase 1 1" + QUICK
                + ";phase 1 1" + QUICK + ";");
        x.call(2, false);
        x.tick(3);
        Check.ring(x, 0, 2, 0, 0);
        Check.ring(x, 1, 3, 0, 0);
        x.call(0, false);
        x.call(1, false);
        x.tick(1);
        // a phase on the other side goes ahead of one further ahead on this side
        Check.ring(x, 0, 2, 1, 0, 0);
        Check.ring(x, 1, 3, 1, 0, -1);
    }

    private static void yellowHoldsUpTheOther() {
        RingedLights x = Check.of("phase 0 0" + QUICK + ";phase 0 1;phase 1 0 min 1 pass 1 yellow 5 clear 4;phase 1 1;");
        x.call(1, false);
        x.tick(3);
        Check.ring(x, 0, -1, 3, 0, 1);
        Check.ring(x, 1, 2, 1, 1, 3);
        x.tick(7);
        Check.ring(x, 0, -1, 3, 0, 1);
        Check.ring(x, 1, 2, 2, 3, 3);
        x.tick(1);
        Check.ring(x, 0, 1, 0, 0, -1);
        Check.ring(x, 1, 3, 0, 0, -1);
    }

    private static void clockGoesRound() {
        RingedLights x = Check.of("cycle 20;");
        x.tick(19);
        Check.due("many(4)", x.many(4), 19);
        x.tick(1);
        Check.due("many(4)", x.many(4), 0);
        x.tick(181);
        Check.due("many(4)", x.many(4), 1);
        x = Check.of("cycle 25;");
        x.tick(23);
        x.clock(1, 24);
        x.tick(1);
        Check.due("many(4): one more, round", x.many(4), 0);
        x.clock(1, 0);
        x.tick(75);
        x.clock(1, 0);
        x.tick(1);
        x = Check.of("cycle 25;");
        x.tick(99);
        x.clock(1, 1);
        x.tick(1);
        Check.due("many(4): one less, round", x.many(4), 24);
        x.tick(3);
        Check.due("many(4)", x.many(4), 2);
        x = Check.of("phase 0 0;");
        x.tick(50);
        Check.due("many(4) without CYCLE", x.many(4), 0);
    }

    private static void clockIsBroughtByTheNearerWay() {
        int[][] rows = {{40, 20, 5}, {40, 19, 3}, {40, 21, 5}, {40, 0, 4}, {40, 39, 5}, {40, 1, 3}, {21, 11, 5},
            {21, 10, 3}, {240, 239, 5}, {20, 40, 4}, {20, 239, 5}};
        for (int[] row : rows) {
            RingedLights x = Check.of("cycle " + row[0] + ";offset " + row[1] + ";");
            x.tick(3);
            Check.due("many(4)", x.many(4), 3);
            x.tick(1);
            Check.due("many(4) of cycle " + row[0] + ", offset " + row[1], x.many(4), row[2]);
        }
    }

    private static void endsAndForced() {
        RingedLights x = Check.of("phase 0 1 split 7;phase 0 0 split 5;phase 1 0 split 60;phase 0 1 split 9;phase 0 0 split 3;"
                + "phase 1 1 split 1;");
        int[] ends = {15, 5, 60, 24, 8, 61};
        for (int phase = 0; phase < 6; phase++) {
            Check.due("phase(" + phase + ", 7)", x, x.phase(phase, 7), ends[phase], 0);
        }
        x.mark(1, 8, 0);
        Check.due("phase(3, 7)", x.phase(3, 7), 19);

        // forced from its END on, for less than half of the cycle
        x = Check.of("cycle 21;phase 0 0 split 5 min 1;");
        for (int tick = 1; tick <= 42; tick++) {
            x.tick(1);
            boolean forced = tick % 21 >= 5 && tick % 21 < 15;
            Check.due("tick " + tick + ": ring(0, 9)", x.ring(0, 9), forced ? 1 : 0);
            Check.due("tick " + tick + ": ring(0, 8)", x.ring(0, 8), forced && tick > 1 ? 1 : 0);
        }
        x.clock(0, 0);
        Check.due("ring(0, 9) without CYCLE", x.ring(0, 9), 0);
        Check.due("ring(0, 8) without CYCLE", x.ring(0, 8), 1);
    }

    private static void notTheFirstLeavesByItsGap() {
        RingedLights x = Check.of("cycle 40;phase 0 0 split 10 recall 1" + QUICK + ";phase 0 0 split 10 pass 2 min 1 recall 2;");
        x.tick(9);
        Check.ring(x, 0, 0, 0, 8, -1, 8, 8, 0, 0, 0, 0);
        x.tick(1);
        Check.ring(x, 0, 0, 1, 0, 1);
        x.tick(1);
        Check.ring(x, 0, 1, 0, 0);
        x.tick(1);
        Check.ring(x, 0, 1, 0, 1, -1, 1, 1, 0, 0, 0, 0);
        x.tick(1);
        Check.ring(x, 0, 1, 1, 0, 0);
        x = Check.of("cycle 40;phase 0 1 split 10" + QUICK + ";phase 0 1 split 10" + QUICK + ";");
        x.call(1, false);
        x.tick(8);
        // the first of its row, on whichever side
        Check.ring(x, 0, 0, 0, 7, -1, 7, 7, 0, 0, 0, 0);
    }

    private static void maxIsNothingWithACycle() {
        RingedLights x = Check.of("cycle 100;phase 0 0 split 30 max 2" + QUICK + ";phase 0 1;");
        x.come(0, 99);
        x.call(1, false);
        x.tick(29);
        Check.ring(x, 0, 0, 0, 28, -1, 0, 28, 0, 0, 0, 0);
        x.tick(1);
        Check.ring(x, 0, 0, 1, 0, 1);
        x = Check.of("cycle 100;phase 0 0 min 30 split 10;phase 0 1;");
        x.call(1, false);
        x.tick(30);
        Check.ring(x, 0, 0, 0, 29, -1, 29, 29, 0, 0, 0, 1);
        x.tick(1);
        Check.ring(x, 0, 0, 1, 0, 1);
    }

    private static void monitor() {
        RingedLights x = Check.of("phase 0 0;phase 1 0;phase 0 1;phase 1 1;");
        x.tick(1);
        x.stick(1, true);
        x.tick(2);
        Check.due("many(5): no foes", x.many(5), 0);
        Check.due("sum(5)", x.sum(5), 3);
        x.stick(3, true);
        Check.due("many(6)", x.many(6), 10);
        Check.due("sum(5)", x.sum(5), 11);
        Check.due("many(5): not ahead of a tick", x.many(5), 0);
        x.come(0, 4);
        x.ask(1);
        x.tick(1);
        Check.due("many(5)", x.many(5), 1);
        Check.event(x, 0, 4, 4, 0);
        Check.due("phase(0, 3): a tick goes its way until the monitor", x.phase(0, 3), 3);
        Check.ring(x, 0, -1, 3, 0, -1, 0, 0, 0, 0, 0, 0);
        Check.ring(x, 1, -1, 3, 0, -1, 0, 0, 0, 0, 0, 0);
        Check.due("sum(5)", x.sum(5), 10);
        Check.due("many(7): no break is begun", x.many(7), -1);
        Check.due("many(8)", x.many(8), 0);
        Check.due("many(9)", x.many(9), 0);
        Check.due("many(10): it is wanted", x.many(10), 2);
        Check.due("phase(3, 2)", x.phase(3, 2), 2);
        Check.due("phase(0, 2)", x.phase(0, 2), 0);
        Check.due("sum(1)", x.sum(1), 3);

        // a yellow one is shown, too; a red one is not
        x = Check.of("phase 0 0 yellow 3" + QUICK.substring(0, 13) + " clear 3;phase 0 1;");
        x.call(1, false);
        x.tick(3);
        Check.ring(x, 0, 0, 1, 1, 1);
        x.keep();
        x.stick(1, true);
        x.tick(1);
        Check.due("many(5): yellow", x.many(5), 1);
        Check.event(x, 0, 4, 4, 0);
        x.back();
        x.tick(1);
        x.stick(1, true);
        x.tick(1);
        Check.due("many(5): red", x.many(5), 0);
        x.tick(3);
        Check.ring(x, 0, 1, 0, 0);
        x.tick(50);
        Check.due("many(5): its own lamp", x.many(5), 0);
    }

    private static void monitorStaysInFlash() {
        RingedLights x = Check.of("cycle 30;phase 0 0;phase 0 0;phase 1 0;");
        x.come(2, 5);
        x.stick(0, true);
        x.stick(1, true);
        x.tick(1);
        Check.event(x, 0, 4, 1, 0);
        Check.event(x, 1, 0, 1, 2);
        Check.event(x, 2, 0, 1, 0);
        x.tick(10);
        Check.due("many(1)", x.many(1), 11);
        Check.due("many(4): the clock goes on", x.many(4), 11);
        Check.due("sum(1)", x.sum(1), 55);
        Check.due("sum(2)", x.sum(2), 5);
        Check.event(x, 0, 4, 1, 0);
        Check.due("call(0, false)", x, x.call(0, false), 8);
        x.reset();
        Check.event(x, 0, 5, 11, -1);
        Check.due("many(5)", x.many(5), 0);
        Check.ring(x, 0, -1, 3, 0, 0);
        Check.ring(x, 1, -1, 3, 0, 2);
        x.tick(1);
        Check.due("many(5): they stick still", x.many(5), 1);
        Check.event(x, 0, 4, 12, 0);
        x.stick(0, false);
        x.stick(1, false);
        x.tick(1);
        Check.due("many(5): it stays until reset()", x.many(5), 1);
    }

    private static void comers() {
        // of the seed 3: 77,200, then 50,657 and 217,734, of 233,280: draws of 19, 13 and 56
        RingedLights x = Check.of("phase 0 0 rate 20;phase 0 1 rate 13;phase 1 0 rate 0;");
        Check.due("run(1, 3)", x, x.run(1, 3), 0, 0);
        Check.due("phase(0, 3)", x.phase(0, 3), 1);
        Check.due("phase(1, 3)", x.phase(1, 3), 0);
        Check.due("phase(2, 3)", x.phase(2, 3), 0);
        x = Check.of("phase 0 0 rate 19;phase 0 1 rate 14;phase 1 0;");
        x.run(1, 3);
        Check.due("phase(0, 3)", x.phase(0, 3), 0);
        Check.due("phase(1, 3)", x.phase(1, 3), 1);
        x.tick(50);
        Check.due("sum(0) and sum(2): tick() has no comers", x.sum(0) + x.sum(2), 1);

        // run() begins with its seed each time, and one run is as its draws by hand
        x = Check.of("phase 0 0 rate 25 min 1;phase 0 1 rate 30 min 1;phase 1 0 rate 7;phase 1 1;");
        long drawn = 9999;
        int came = 0;
        int[] rates = {25, 30, 7, 0};
        for (int i = 0; i < 4 * 100; i++) {
            drawn = (drawn * 9301 + 49297) % 233280;
            came += drawn * 60 / 233280 < rates[i % 4] ? 1 : 0;
        }
        int gone = x.run(100, 9999);
        Check.due("status() behind run(100, 9999)", x.status(), 0);
        Check.due("run(100, 9999)", gone, x.sum(0));
        Check.due("all who came", x.sum(0) + x.sum(2), came);
        int again = x.run(100, 9999);
        Check.due("all who came", x.sum(0) + x.sum(2), 2 * came);
        Check.due("let go in the second run alone", gone + again, x.sum(0));
        Check.due("many(1)", x.many(1), 200);
    }

    private static void comersOfAFullQueue() {
        RingedLights x = Check.of("phase 0 0 rate 30;phase 0 0 rate 30 min 30;");
        x.come(1, 99);
        x.run(5, 3);
        Check.due("phase(1, 3)", x.phase(1, 3), 99);
        Check.due("sum(3)", x.sum(3), 99);
        Check.due("sum(4)", x.sum(4), 1);
    }

    private static void comersInFlash() {
        RingedLights x = Check.of("phase 0 0 rate 20;phase 0 0;");
        x.stick(0, true);
        x.stick(1, true);
        x.tick(1);
        Check.due("many(5)", x.many(5), 1);
        Check.due("run(1, 3)", x, x.run(1, 3), 0, 0);
        Check.due("phase(0, 3)", x.phase(0, 3), 1);
        Check.due("sum(1)", x.sum(1), 1);
    }

    private static void tickAndRunLookAtTheirNumbers() {
        RingedLights x = Check.of("phase 0 0;");
        for (int many : new int[] {0, -1, 301, Integer.MAX_VALUE, Integer.MIN_VALUE}) {
            Check.refused("tick(" + many + ")", x, x.tick(many), 1);
            Check.refused("run(" + many + ", 0)", x, x.run(many, 0), 1);
        }
        Check.refused("run(1, -1)", x, x.run(1, -1), 1);
        Check.refused("run(1, 10000)", x, x.run(1, 10000), 1);
        Check.due("many(1)", x.many(1), 0);
        Check.due("tick(1)", x, x.tick(1), 1, 0);
        Check.due("tick(300)", x, x.tick(300), 301, 0);
        x.come(0, 7);
        Check.due("run(300, 9999)", x, x.run(300, 9999), 7, 0);
        Check.due("run(1, 0)", x, x.run(1, 0), 0, 0);
        Check.due("many(1)", x.many(1), 602);
    }

    private static void lookingLooksAtItsNumbers() {
        RingedLights x = Check.of("phase 0 0;phase 1 0;");
        int[] wild = {-1, Integer.MIN_VALUE, Integer.MAX_VALUE, 99};
        for (int n : wild) {
            Check.refused("many(" + n + ")", x, x.many(n), 1);
            Check.refused("ring(0, " + n + ")", x, x.ring(0, n), 1);
            Check.refused("ring(5, " + n + ")", x, x.ring(5, n), 1);
            Check.refused("ring(" + n + ", 0)", x, x.ring(n, 0), 2);
            Check.refused("phase(0, " + n + ")", x, x.phase(0, n), 1);
            Check.refused("phase(" + n + ", 9)", x, x.phase(n, 9), 1);
            Check.refused("phase(" + n + ", 8)", x, x.phase(n, 8), 2);
            Check.refused("marked(0, " + n + ")", x, x.marked(0, n), 1);
            Check.refused("marked(" + n + ", 10)", x, x.marked(n, 10), 1);
            Check.refused("marked(" + n + ", 9)", x, x.marked(n, 9), 2);
            Check.refused("brake(0, " + n + ")", x, x.brake(0, n), 1);
            Check.refused("brake(" + n + ", 6)", x, x.brake(n, 6), 1);
            Check.refused("brake(" + n + ", 5)", x, x.brake(n, 5), 2);
            Check.refused("sum(" + n + ")", x, x.sum(n), 1);
            Check.refused("event(" + n + ", 0)", x, x.event(n, 0), 1);
            Check.refused("event(0, " + n + ")", x, x.event(0, n), 1);
        }
        Check.refused("many(12)", x, x.many(12), 1);
        Check.refused("ring(2, 9)", x, x.ring(2, 9), 2);
        Check.refused("ring(1, 10)", x, x.ring(1, 10), 1);
        Check.refused("phase(2, 0)", x, x.phase(2, 0), 2);
        Check.refused("phase(1, 9)", x, x.phase(1, 9), 1);
        Check.refused("marked(2, 0)", x, x.marked(2, 0), 2);
        Check.refused("brake(1, 6)", x, x.brake(1, 6), 1);
        Check.refused("sum(6)", x, x.sum(6), 1);
        Check.refused("event(0, 3)", x, x.event(0, 3), 1);
        Check.refused("event(32, 0)", x, x.event(32, 0), 1);
        Check.refused("event(31, 0)", x, x.event(31, 0), 5);
        Check.due("phase(1, 0)", x, x.phase(1, 0), 1, 0);
        x.come(0, 4);
        x.come(1, 4);
        Check.due("sum(2)", x, x.sum(2), 8, 0);
        Check.due("sum(3)", x, x.sum(3), 4, 0);
        Check.due("sum(4)", x, x.sum(4), 0, 0);
        x.come(1, 1);
        Check.due("sum(3)", x, x.sum(3), 5, 0);
        Check.due("sum(4)", x, x.sum(4), 1, 0);
    }

    private static void thirtyTwoEvents() {
        RingedLights x = Check.of("phase 0 0 recall 1" + QUICK + ";phase 0 1 recall 1" + QUICK + ";");
        x.tick(31);
        // green at 1, 3, 5, .., left at 2, 4, 6, ..
        for (int i = 0; i < 31; i++) {
            Check.event(x, i, i % 2 == 0 ? 0 : 1, 31 - i, (31 - i - 1) / 2 % 2);
        }
        Check.refused("event(31, 0)", x, x.event(31, 0), 5);
        x.tick(2);
        Check.event(x, 31, 1, 2, 0);
        Check.event(x, 0, 0, 33, 0);
        x.tick(47);
        Check.event(x, 0, 1, 80, 1);
        Check.event(x, 31, 0, 49, 0);
        Check.refused("event(32, 2)", x, x.event(32, 2), 1);
    }
}
