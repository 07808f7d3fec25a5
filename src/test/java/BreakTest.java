/** Promises 6, 10, 12, 17, 18, 19 and 32: trains and engines that break in and let go. */
public final class BreakTest {
    private static final String QUICK = " min 1 pass 1 yellow 1 clear 0";

    private BreakTest() {
    }

    public static void main(String[] args) {
        trackThenDwell();
        withoutTrack();
        trainAheadOfEngine();
        engineGivesWayToTrain();
        endedByItsDwell();
        endWithoutGreen();
        endIsFollowedByTheChoice();
        endOnTheSideOfTheGreenOne();
        noChoiceDuringABreak();
        cutOfThoseOnFoot();
        yellowOneIsSentElsewhere();
        flashDropsIt();
        askAndLet();
        brakes();
        broken();
        Check.end();
    }

    private static void stage(RingedLights x, int begun, int stage, int ticks) {
        int tick = x.many(1);
        Check.due("tick " + tick + ": many(7)", x, x.many(7), begun, 0);
        Check.due("tick " + tick + ": many(8)", x, x.many(8), stage, 0);
        Check.due("tick " + tick + ": many(9)", x, x.many(9), ticks, 0);
    }

    private static void trackThenDwell() {
        RingedLights x = Check.of("phase 0 0" + QUICK + ";phase 0 1" + QUICK + ";phase 1 0" + QUICK + ";phase 1 1" + QUICK
                + ";break 0 track 2 2 dwell 5 3 cut 0;");
        x.tick(1);
        x.ask(0);
        stage(x, -1, 0, 0);
        x.tick(1);
        stage(x, 0, 1, 0);
        Check.ring(x, 0, 0, 1, 0, 1);
        Check.ring(x, 1, 2, 1, 0, -1);
        Check.event(x, 2, 2, 2, 0);
        Check.event(x, 1, 1, 2, 0);
        Check.event(x, 0, 1, 2, 2);
        x.tick(1);
        stage(x, 0, 2, 0);
        Check.ring(x, 0, 1, 0, 0, -1);
        Check.ring(x, 1, -1, 3, 0, -1);
        x.tick(1);
        stage(x, 0, 2, 1);
        x.tick(1);
        stage(x, 0, 3, 0);
        Check.ring(x, 0, 1, 0, 2);
        x.tick(1);
        stage(x, 0, 3, 0);
        Check.ring(x, 0, 1, 1, 0, 0);
        // ring 1 is sent to its phase, and waits while ring 0 holds a foe of it
        Check.ring(x, 1, -1, 3, 0, 2);
        x.tick(1);
        stage(x, 0, 4, 0);
        Check.ring(x, 0, 0, 0, 0);
        Check.ring(x, 1, 2, 0, 0);
        x.tick(9);
        stage(x, 0, 4, 9);
        x.let(0);
        x.tick(1);
        stage(x, -1, 0, 0);
        Check.event(x, 0, 3, 17, 0);
        Check.ring(x, 0, 0, 0, 10);
    }

    private static void withoutTrack() {
        RingedLights x = Check.of("phase 0 0" + QUICK + ";phase 0 1;break 1 track 0 9 dwell 1 4 cut 0;");
        x.ask(1);
        x.tick(1);
        stage(x, 1, 4, 0);
        Check.event(x, 1, 2, 1, 1);
        Check.event(x, 0, 0, 1, 0);
        Check.due("many(10)", x.many(10), 2);
    }

    private static void trainAheadOfEngine() {
        RingedLights x = Check.of("phase 0 0;phase 0 1;break 1 track 1 9 dwell 1 4 cut 0;break 0 track 0 0 dwell 2 1 cut 0;");
        x.ask(1);
        x.ask(0);
        Check.due("many(10)", x.many(10), 3);
        x.tick(1);
        // the ring waits, so the train sends it straight to its dwell
        stage(x, 0, 4, 0);
        Check.ring(x, 0, 1, 0, 0);
        x.let(0);
        x.tick(1);
        stage(x, -1, 0, 0);
        Check.event(x, 0, 3, 2, 0);
        x.tick(1);
        stage(x, 1, 1, 0);
        Check.event(x, 1, 2, 3, 1);
        Check.event(x, 0, 1, 3, 1);
    }

    private static void engineGivesWayToTrain() {
        RingedLights x = Check.of("phase 0 0;phase 0 1;break 0 track 1 3 dwell 2 2 cut 0;break 1 track 0 9 dwell 1 4 cut 0;");
        x.ask(1);
        x.tick(2);
        stage(x, 1, 4, 1);
        x.ask(0);
        x.keep();
        x.brakes(0, 2, 3, 2, 2, 0);
        x.tick(1);
        stage(x, 0, 1, 0);
        x.back();
        x.tick(1);
        stage(x, 0, 2, 0);
        Check.event(x, 1, 3, 3, 1);
        Check.event(x, 0, 2, 3, 0);
        x.tick(2);
        stage(x, 0, 2, 2);
        x.tick(1);
        stage(x, 0, 3, 0);
        Check.ring(x, 0, 0, 0, 5);
        x.tick(1);
        Check.ring(x, 0, 0, 1, 0, 1);
        stage(x, 0, 3, 0);
        x.tick(3);
        Check.ring(x, 0, 0, 2, 0, 1);
        x.tick(1);
        stage(x, 0, 4, 0);
        Check.ring(x, 0, 1, 0, 0, -1);
        x.tick(2);
        stage(x, 0, 4, 2);
        x.let(0);
        x.tick(1);
        stage(x, -1, 0, 0);
        x.tick(1);
        stage(x, 1, 3, 0);
        Check.ring(x, 0, 1, 1, 0, 0);
        x.ask(0);
        x.let(1);
        x.tick(1);
        // the engine ends by the train in whatever stage, and is wanted no more here
        stage(x, 0, 1, 0);
        Check.event(x, 1, 3, 16, 1);
        Check.event(x, 0, 2, 16, 0);
    }

    private static void endedByItsDwell() {
        RingedLights x = Check.of("phase 0 0;break 0 track 0 0 dwell 1 3 cut 0;");
        x.ask(0);
        x.tick(1);
        x.let(0);
        x.tick(2);
        stage(x, 0, 4, 2);
        x.tick(1);
        stage(x, -1, 0, 0);
        Check.event(x, 0, 3, 4, 0);
        x.ask(0);
        x.let(0);
        x.tick(1);
        stage(x, -1, 0, 0);
        Check.event(x, 0, 3, 4, 0);
    }

    private static void endWithoutGreen() {
        RingedLights x = Check.of("phase 0 0;phase 0 1;phase 1 1;");
        x.ask(0);
        x.tick(1);
        stage(x, 0, 4, 0);
        Check.ring(x, 0, -1, 3, 0, -1);
        x.tick(3);
        stage(x, 0, 4, 3);
        x.let(0);
        x.tick(1);
        stage(x, -1, 0, 0);
        Check.ring(x, 0, 0, 0, 0, -1);
        Check.ring(x, 1, -1, 3, 0, -1);
        Check.event(x, 1, 3, 5, 0);
        Check.event(x, 0, 0, 5, 0);
    }

    private static void endIsFollowedByTheChoice() {
        RingedLights x = Check.of("phase 0 0 min 1 pass 1;phase 0 1;break 0 track 0 0 dwell 1 2 cut 0;");
        x.ask(0);
        x.call(1, false);
        x.tick(1);
        x.let(0);
        x.tick(1);
        Check.ring(x, 0, 0, 0, 1, -1, 1, 1, 0, 0, 1);
        x.tick(1);
        stage(x, -1, 0, 0);
        Check.event(x, 1, 3, 3, 0);
        Check.event(x, 0, 1, 3, 0);
        Check.ring(x, 0, 0, 1, 0, 1);
    }

    private static void endOnTheSideOfTheGreenOne() {
        RingedLights x = Check.of("phase 0 0;phase 0 1;phase 0 1;phase 1 0;phase 1 1;phase 1 1;"
                + "break 0 track 0 0 dwell 32 0 cut 0;");
        x.ask(0);
        x.tick(1);
        Check.ring(x, 1, 5, 0, 0, -1);
        Check.ring(x, 0, -1, 3, 0, -1);
        x.let(0);
        x.tick(1);
        Check.ring(x, 0, 1, 0, 0, -1);
        Check.ring(x, 1, 5, 0, 1, -1);
        x = Check.of("phase 0 0;phase 1 0;phase 1 1;phase 1 1;phase 0 1;break 0 track 0 0 dwell 16 0 cut 0;");
        x.ask(0);
        x.tick(1);
        Check.ring(x, 0, 4, 0, 0, -1);
        x.let(0);
        x.tick(1);
        Check.ring(x, 1, 2, 0, 0, -1);
        x = Check.of("phase 0 0;phase 1 1;break 0 track 0 0 dwell 2 0 cut 0;");
        x.ask(0);
        x.tick(1);
        x.let(0);
        x.tick(1);
        Check.ring(x, 0, -1, 3, 0, -1);
        Check.ring(x, 1, 1, 0, 1, -1);
    }

    private static void noChoiceDuringABreak() {
        RingedLights x = Check.of("phase 0 0" + QUICK + ";phase 0 1" + QUICK + ";break 1 track 1 30 dwell 1 30 cut 0;");
        x.call(1, false);
        x.come(0, 2);
        x.ask(1);
        x.tick(20);
        Check.ring(x, 0, 0, 0, 19, -1, 17, 19, 0, 0, 1);
        stage(x, 1, 2, 19);
        Check.due("sum(0)", x.sum(0), 2);
    }

    private static void cutOfThoseOnFoot() {
        String one = "phase 0 0 walk 9 halt 5" + QUICK + ";phase 0 1;break 0 track 2 1 dwell 2 1 cut ";
        RingedLights x = Check.of(one + "3;");
        x.call(0, true);
        x.tick(1);
        Check.ring(x, 0, 0, 0, 0, -1, 0, 0, 1, 0);
        x.ask(0);
        x.tick(1);
        Check.ring(x, 0, 0, 0, 1, -1, 1, 0, 2, 0);
        x.tick(2);
        Check.ring(x, 0, 0, 0, 3, -1, 3, 0, 2, 2);
        x.tick(1);
        Check.ring(x, 0, 0, 1, 0, 1, 0, 0, 0, 0);
        Check.event(x, 0, 1, 5, 0);

        x = Check.of(one + "0;");
        x.call(0, true);
        x.tick(1);
        x.ask(0);
        x.tick(1);
        Check.ring(x, 0, 0, 1, 0, 1);

        x = Check.of(one + "20;");
        x.call(0, true);
        x.tick(1);
        x.ask(0);
        x.tick(5);
        Check.ring(x, 0, 0, 0, 5, -1, 5, 0, 2, 4);
        x.tick(1);
        Check.ring(x, 0, 0, 1, 0, 1);

        // of a green cut short nothing is left in the next one
        x = Check.of(one + "3;");
        x.call(0, true);
        x.tick(1);
        x.ask(0);
        x.tick(5);
        Check.ring(x, 0, 1, 0, 0, -1, 0, 0, 0, 0);

        // the phase of the goal itself lets those on foot walk on
        x = Check.of("phase 0 0 walk 3 halt 5" + QUICK + ";phase 0 1;break 0 track 1 9 dwell 1 1 cut 0;");
        x.call(0, true);
        x.tick(1);
        x.ask(0);
        x.tick(2);
        Check.ring(x, 0, 0, 0, 2, -1, 2, 0, 1, 0);
        stage(x, 0, 2, 1);
    }

    private static void yellowOneIsSentElsewhere() {
        RingedLights x = Check.of("phase 0 0 min 1 pass 1 yellow 3;phase 0 0;phase 0 1;break 0 track 0 0 dwell 4 1 cut 0;");
        x.call(1, false);
        x.tick(2);
        Check.ring(x, 0, 0, 1, 0, 1);
        x.ask(0);
        x.tick(1);
        Check.ring(x, 0, 0, 1, 1, 2);
        x.tick(2);
        Check.ring(x, 0, 0, 2, 0, 2);
        x.tick(1);
        Check.ring(x, 0, 2, 0, 0, -1);
        stage(x, 0, 4, 0);
        Check.due("phase(1, 4)", x.phase(1, 4), 1);
    }

    private static void flashDropsIt() {
        RingedLights x = Check.of("phase 0 0;phase 0 1;break 0 track 1 5 dwell 1 5 cut 0;");
        x.ask(0);
        x.tick(3);
        stage(x, 0, 2, 2);
        x.stick(1, true);
        x.tick(1);
        stage(x, -1, 0, 0);
        Check.due("many(10)", x.many(10), 1);
        Check.event(x, 0, 4, 4, 0);
        Check.event(x, 1, 0, 1, 0);
        Check.due("brakes behind a flash", x, x.brakes(0, 0, 1, 2, 3, 4), 0);
        x.tick(5);
        stage(x, -1, 0, 0);
        x.stick(1, false);
        x.reset();
        x.tick(1);
        stage(x, 0, 4, 0);
        Check.ring(x, 0, 1, 0, 0);
        Check.event(x, 2, 5, 9, -1);
        Check.event(x, 1, 2, 10, 0);
    }

    private static void askAndLet() {
        RingedLights x = Check.of("phase 0 0;");
        for (int brake : new int[] {-1, 2, Integer.MAX_VALUE, Integer.MIN_VALUE}) {
            Check.due("ask(" + brake + ")", x, x.ask(brake), 2);
            Check.due("let(" + brake + ")", x, x.let(brake), 2);
        }
        Check.due("let(0)", x, x.let(0), 4);
        Check.due("ask(0)", x, x.ask(0), 0);
        Check.due("ask(0)", x, x.ask(0), 4);
        Check.due("brake(0, 5)", x, x.brake(0, 5), 1, 0);
        Check.due("brake(1, 5)", x, x.brake(1, 5), 0, 0);
        Check.due("let(1)", x, x.let(1), 4);
        Check.due("ask(1)", x, x.ask(1), 0);
        Check.due("let(0)", x, x.let(0), 0);
        Check.due("many(10)", x.many(10), 2);
        Check.due("let(0)", x, x.let(0), 4);
    }

    private static void brakes() {
        RingedLights x = Check.of("phase 0 0;phase 0 1;phase 1 0;");
        Check.due("brakes", x, x.brakes(1, 5, 30, 2, 7, 20), 0);
        int[] had = {5, 30, 2, 7, 20, 0};
        for (int what = 0; what < 6; what++) {
            Check.due("brake(1, " + what + ")", x, x.brake(1, what), had[what], 0);
            Check.due("brake(0, " + what + ")", x, x.brake(0, what), 0, 0);
        }
        Check.due("track 8", x, x.brakes(1, 8, 0, 0, 0, 0), 1);
        Check.due("track -1", x, x.brakes(1, -1, 0, 0, 0, 0), 1);
        Check.due("dwell 8", x, x.brakes(1, 0, 0, 8, 0, 0), 1);
        Check.due("dwell -1", x, x.brakes(1, 0, 0, -1, 0, 0), 1);
        Check.due("ticks 31", x, x.brakes(1, 0, 31, 0, 0, 0), 1);
        Check.due("ticks -1", x, x.brakes(1, 0, -1, 0, 0, 0), 1);
        Check.due("least 31", x, x.brakes(1, 0, 0, 0, 31, 0), 1);
        Check.due("least -1", x, x.brakes(1, 0, 0, 0, -1, 0), 1);
        Check.due("cut 21", x, x.brakes(1, 0, 0, 0, 0, 21), 1);
        Check.due("cut -1", x, x.brakes(1, 0, 0, 0, 0, -1), 1);
        Check.due("brake 2, cut 21", x, x.brakes(2, 0, 0, 0, 0, 21), 1);
        Check.due("brake 2", x, x.brakes(2, 3, 0, 0, 0, 0), 2);
        Check.due("brake -1", x, x.brakes(-1, 0, 0, 0, 0, 0), 2);
        Check.due("track of foes", x, x.brakes(1, 3, 0, 0, 0, 0), 7);
        Check.due("dwell of foes", x, x.brakes(1, 0, 0, 6, 0, 0), 7);
        Check.due("brake(1, 0)", x.brake(1, 0), 5);
        x.ask(1);
        Check.due("brakes of one that is wanted", x, x.brakes(1, 1, 1, 1, 1, 1), 0);
        x.tick(1);
        Check.due("brakes of one that has begun", x, x.brakes(1, 3, 1, 1, 1, 1), 4);
        Check.due("brakes of the other", x, x.brakes(0, 1, 1, 1, 1, 1), 0);
    }

    private static void broken() {
        RingedLights x = Check.of("phase 0 0;phase 0 1;break 0 track 2 3 dwell 1 3 cut 0;break 1 track 0 0 dwell 2 30 cut 0;");
        Check.refused("broken(2)", x, x.broken(2), 2);
        Check.refused("broken(-1)", x, x.broken(-1), 2);
        x.tick(2);
        // yellow from the next tick on, for 3 ticks and one of all red
        Check.due("broken(0)", x, x.broken(0), 5, 0);
        Check.due("many(10)", x.many(10), 0);
        Check.due("many(1)", x.many(1), 2);
        x.ask(0);
        x.tick(4);
        Check.due("broken(0)", x, x.broken(0), 1, 0);
        x.tick(1);
        Check.due("broken(0): stage 2", x, x.broken(0), 0, 0);
        // the train never lets go, so the engine never gets its turn
        Check.refused("broken(1)", x, x.broken(1), 6);
        x.tick(3);
        Check.due("many(8)", x.many(8), 3);
        Check.due("broken(0)", x, x.broken(0), 5, 0);
        x.let(0);
        // 5 to its dwell, 3 on it; then the engine begins: 5 more
        Check.due("broken(1)", x, x.broken(1), 13, 0);
        x.tick(5);
        Check.due("many(8)", x.many(8), 4);
        Check.due("broken(0): stage 4", x, x.broken(0), 0, 0);
        x.stick(1, true);
        x.tick(1);
        Check.refused("broken(0) in a flash", x, x.broken(0), 6);
    }
}
