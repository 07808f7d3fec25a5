/** The bounds that promises 6 to 12 name, of what there is: a test for each sentence. */
public final class LookBoundsTest {
    private static final int[] WILD = {-2, -1, Integer.MIN_VALUE, Integer.MAX_VALUE};
    private static final String QUICK = " min 1 pass 1 yellow 1 clear 0";
    private static final String FOUR = "phase 0 0;phase 0 1;phase 1 0;phase 1 1;";

    private LookBoundsTest() {
    }

    public static void main(String[] args) {
        manyOfWhat();
        manyTellsNoneFromAnAnswer();
        manyWithoutABreak();
        manyOfLampsAndBreaksAsSets();
        ringOfWhat();
        ringOfAnother();
        ringTellsNoneFromAnAnswer();
        ringOfOneThatIsNotGreen();
        ringForcedWithoutCycle();
        phaseOfWhat();
        phaseOfAnother();
        lampOfAPhase();
        lampThatSticks();
        calledByItsQueue();
        calledByItsRecall();
        onFootByItsWalk();
        onFootByItsRecall();
        endOfAPhase();
        foesOfAPhase();
        markedOfWhat();
        markedOfAnother();
        brakeOfWhat();
        brakeOfAnother();
        sumOfWhat();
        sumWithoutQueues();
        sumOfTheGreatestQueue();
        sumOfShown();
        eventOfWhat();
        eventOfEachKind();
        eventThatThereIsNot();
        eventTellsNoneFromAnAnswer();
        eventsAreTheLatest32();
        lookingChangesNothing();
        Check.end();
    }

    /** A crossing of which each number is asked, one way or another. */
    private static RingedLights busy() {
        RingedLights x = Check.of("phase 0 0 walk 3 halt 2 split 4;phase 0 1 rate 9;phase 1 0 recall 1;cycle 30;offset 4;"
                + "break 0 track 1 2 dwell 5 3 cut 4;");
        x.come(1, 4);
        x.call(0, true);
        x.tick(3);
        x.keep();
        return x;
    }

    // ---- promise 6

    private static void manyOfWhat() {
        Doc.promise(6, "MARKS of all (11) (1)");
        RingedLights x = busy();
        int[] many = {3, 3, 30, 4, 3, 0, 0, -1, 0, 0, 0, 1};
        for (int what = 0; what < 12; what++) {
            Check.due("many(" + what + ")", x, x.many(what), many[what], 0);
        }
        Check.refused("many(12)", x, x.many(12), 1);
        for (int what : WILD) {
            Check.refused("many(" + what + ")", x, x.many(what), 1);
        }
    }

    private static void manyTellsNoneFromAnAnswer() {
        Doc.promise(6, "STATUS tells NONE from -1.");
        RingedLights x = busy();
        Check.due("many(7): none has begun", x, x.many(7), -1, 0);
        Check.refused("many(-1)", x, x.many(-1), 1);
        x.ask(1);
        x.tick(1);
        Check.due("many(7)", x, x.many(7), 1, 0);
    }

    private static void manyWithoutABreak() {
        Doc.promise(6, "the BREAK that has begun (7; NONE), its STAGE (8; 0 without), its TICKS in that (9; 0 without)");
        RingedLights x = Check.of("phase 0 0;break 0 track 0 0 dwell 1 2 cut 0;");
        for (int i = 0; i < 2; i++) {
            Check.due("many(7)", x, x.many(7), -1, 0);
            Check.due("many(8)", x, x.many(8), 0, 0);
            Check.due("many(9)", x, x.many(9), 0, 0);
            x.ask(0);
            x.tick(2);
            Check.due("many(7)", x, x.many(7), 0, 0);
            Check.due("many(8)", x, x.many(8), 4, 0);
            Check.due("many(9)", x, x.many(9), 1, 0);
            x.let(0);
            x.tick(1);
        }
    }

    private static void manyOfLampsAndBreaksAsSets() {
        Doc.promise(6, "lamps that STICK, as a SET (6)");
        Doc.promise(6, "those WANTED, as bits (10)");
        StringBuilder eight = new StringBuilder();
        for (int i = 0; i < 8; i++) {
            eight.append("phase 0 0;");
        }
        RingedLights x = Check.of(eight.toString());
        int stuck = 0;
        for (int phase = 7; phase >= 0; phase--) {
            x.stick(phase, true);
            stuck |= 1 << phase;
            Check.due("many(6)", x, x.many(6), stuck, 0);
        }
        x.ask(1);
        Check.due("many(10): the engine", x, x.many(10), 2, 0);
        x.ask(0);
        Check.due("many(10): both", x, x.many(10), 3, 0);
        x.let(1);
        Check.due("many(10): the train", x, x.many(10), 1, 0);
        x.let(0);
        Check.due("many(10): neither", x, x.many(10), 0, 0);
    }

    // ---- promise 7

    private static void ringOfWhat() {
        Doc.promise(7, "9: 1 if its PHASE is FORCED (without CYCLE 0) (1; 2)");
        RingedLights x = busy();
        for (int ring = 0; ring < 2; ring++) {
            for (int what = 0; what < 10; what++) {
                x.ring(ring, what);
                Check.due("status() behind ring(" + ring + ", " + what + ")", x.status(), 0);
            }
            Check.refused("ring(" + ring + ", 10)", x, x.ring(ring, 10), 1);
            for (int what : WILD) {
                Check.refused("ring(" + ring + ", " + what + ")", x, x.ring(ring, what), 1);
                Check.refused("ring(2, " + what + ")", x, x.ring(2, what), 1);
            }
        }
    }

    private static void ringOfAnother() {
        Doc.term(7, "2 no such PHASE, RING, BREAK.");
        RingedLights x = busy();
        for (int what = 0; what < 10; what++) {
            Check.refused("ring(2, " + what + ")", x, x.ring(2, what), 2);
            Check.refused("ring(-1, " + what + ")", x, x.ring(-1, what), 2);
        }
        Check.refused("ring(most int, 0)", x, x.ring(Integer.MAX_VALUE, 0), 2);
        Check.refused("ring(least int, 0)", x, x.ring(Integer.MIN_VALUE, 0), 2);
        Check.refused("ring(2, 10): 1 goes ahead of 2", x, x.ring(2, 10), 1);
    }

    private static void ringTellsNoneFromAnAnswer() {
        Doc.promise(7, "what 0: AT (NONE), 1: LAMP, 2: AGE, 3: TO (NONE)");
        RingedLights x = busy();
        Check.due("ring(0, 3): it goes nowhere", x, x.ring(0, 3), -1, 0);
        x = Check.of("phase 0 0;");
        Check.due("ring(0, 0): it is at none", x, x.ring(0, 0), -1, 0);
        Check.due("ring(1, 3): it goes nowhere", x, x.ring(1, 3), -1, 0);
        Check.due("ring(0, 3)", x, x.ring(0, 3), 0, 0);
    }

    private static void ringOfOneThatIsNotGreen() {
        Doc.promise(7, "of a GREEN one, else 0, 4: GAP, 5: PRESSED, 6: WALKING, 7: HALTED, 8: 1 if it is DONE");
        RingedLights x = Check.of("cycle 20;phase 0 0 min 1 pass 1 yellow 2 clear 2 walk 2 halt 2;phase 0 1 split 1;");
        x.call(0, true);
        x.call(1, false);
        x.tick(4);
        Check.ring(x, 0, 0, 0, 3, -1, 3, 3, 2, 1, 0, 1);
        x.tick(1);
        Check.ring(x, 0, 0, 1, 0, 1, 0, 0, 0, 0, 0, 0);
        x.tick(2);
        Check.ring(x, 0, 0, 2, 0, 1, 0, 0, 0, 0, 0, 0);
        Check.ring(x, 1, -1, 3, 0, -1, 0, 0, 0, 0, 0, 0);
    }

    private static void ringForcedWithoutCycle() {
        Doc.promise(7, "9: 1 if its PHASE is FORCED (without CYCLE 0)");
        RingedLights x = Check.of("phase 0 0;");
        x.tick(9);
        Check.due("ring(0, 9) without CYCLE", x, x.ring(0, 9), 0, 0);
        x.clock(0, 20);
        Check.due("ring(0, 9) with one", x, x.ring(0, 9), 1, 0);
        x.clock(0, 0);
        Check.due("ring(0, 9) without CYCLE", x, x.ring(0, 9), 0, 0);
    }

    // ---- promise 8

    private static void phaseOfWhat() {
        Doc.promise(8, "8: its FOES, as a SET (1; 2).");
        RingedLights x = busy();
        for (int phase = 0; phase < 3; phase++) {
            for (int what = 0; what < 9; what++) {
                x.phase(phase, what);
                Check.due("status() behind phase(" + phase + ", " + what + ")", x.status(), 0);
            }
            Check.refused("phase(" + phase + ", 9)", x, x.phase(phase, 9), 1);
            for (int what : WILD) {
                Check.refused("phase(" + phase + ", " + what + ")", x, x.phase(phase, what), 1);
                Check.refused("phase(3, " + what + ")", x, x.phase(3, what), 1);
            }
        }
    }

    private static void phaseOfAnother() {
        Doc.term(7, "2 no such PHASE, RING, BREAK.");
        RingedLights x = busy();
        for (int what = 0; what < 9; what++) {
            Check.refused("phase(3, " + what + ")", x, x.phase(3, what), 2);
            Check.refused("phase(-1, " + what + ")", x, x.phase(-1, what), 2);
            RingedLights none = new RingedLights();
            Check.refused("phase(0, " + what + ") of none", none, none.phase(0, what), 2);
        }
        Check.refused("phase(8, 0)", x, x.phase(8, 0), 2);
        Check.refused("phase(most int, 0)", x, x.phase(Integer.MAX_VALUE, 0), 2);
        Check.refused("phase(least int, 0)", x, x.phase(Integer.MIN_VALUE, 0), 2);
        Check.refused("phase(3, 9): 1 goes ahead of 2", x, x.phase(3, 9), 1);
    }

    private static void lamps(RingedLights x, int... lamps) {
        for (int phase = 0; phase < lamps.length; phase++) {
            Check.due("tick " + x.many(1) + ": phase(" + phase + ", 2)", x, x.phase(phase, 2), lamps[phase], 0);
        }
    }

    private static void lampOfAPhase() {
        Doc.promise(8, "2: its lamp: 0 red, 1 yellow, 2 green");
        RingedLights x = Check.of("phase 0 0 min 1 pass 1 yellow 1 clear 1;phase 0 1;phase 1 0" + QUICK + ";");
        lamps(x, 0, 0, 0);
        x.tick(1);
        lamps(x, 2, 0, 2);
        x.call(1, false);
        x.tick(1);
        lamps(x, 1, 0, 1);
        x.tick(1);
        Check.ring(x, 0, 0, 2);
        Check.ring(x, 1, -1, 3);
        lamps(x, 0, 0, 0);
        x.tick(1);
        lamps(x, 0, 2, 0);
    }

    private static void lampThatSticks() {
        Doc.promise(8, "2 green (that STICKS: 2)");
        RingedLights x = Check.of("phase 0 0 yellow 5" + QUICK.substring(0, 13) + ";phase 0 1;");
        x.call(1, false);
        x.tick(2);
        lamps(x, 1, 0);
        x.stick(0, true);
        lamps(x, 2, 0);
        x.stick(1, true);
        lamps(x, 2, 2);
        x.stick(0, false);
        x.stick(1, false);
        lamps(x, 1, 0);
    }

    private static void calledByItsQueue() {
        Doc.term(2, "CALLED is a PHASE if a call waits, if its QUEUE is above 0");
        RingedLights x = Check.of("phase 0 0;");
        Check.due("phase(0, 4) without a queue", x, x.phase(0, 4), 0, 0);
        x.come(0, 1);
        Check.due("phase(0, 4) with one", x, x.phase(0, 4), 1, 0);
        x.tick(1);
        Check.due("phase(0, 4) with one still", x, x.phase(0, 4), 1, 0);
        x.tick(1);
        Check.due("phase(0, 3)", x, x.phase(0, 3), 0, 0);
        Check.due("phase(0, 4): the one is let go", x, x.phase(0, 4), 0, 0);
    }

    private static void calledByItsRecall() {
        Doc.term(2, "or its RECALL is not 0");
        RingedLights x = Check.of("phase 0 0 recall 0;phase 0 0 recall 1;phase 0 0 recall 2;phase 0 0 recall 3;");
        for (int phase = 0; phase < 4; phase++) {
            Check.due("phase(" + phase + ", 4)", x, x.phase(phase, 4), phase == 0 ? 0 : 1, 0);
            x.mark(phase, 7, 0);
            Check.due("phase(" + phase + ", 4) without RECALL", x, x.phase(phase, 4), 0, 0);
            x.mark(phase, 7, 1);
            Check.due("phase(" + phase + ", 4) with RECALL", x, x.phase(phase, 4), 1, 0);
        }
    }

    private static void onFootByItsWalk() {
        Doc.term(2, "on FOOT if its WALK is above 0 and a call on foot waits");
        RingedLights x = Check.of("phase 0 0 walk 1;phase 0 0 walk 20;");
        Check.due("phase(0, 5): no call on foot", x, x.phase(0, 5), 0, 0);
        x.call(0, false);
        Check.due("phase(0, 5): no call on foot", x, x.phase(0, 5), 0, 0);
        x.call(0, true);
        x.call(1, true);
        Check.due("phase(0, 5)", x, x.phase(0, 5), 1, 0);
        Check.due("phase(1, 5): both may wait", x, x.phase(1, 5), 1, 0);
        Check.due("phase(1, 4): on foot alone is not called", x, x.phase(1, 4), 0, 0);
        x.mark(0, 5, 0);
        Check.due("phase(0, 5) with a WALK of 0", x, x.phase(0, 5), 0, 0);
        x.mark(0, 5, 1);
        Check.due("phase(0, 5) with a WALK of 1", x, x.phase(0, 5), 1, 0);
    }

    private static void onFootByItsRecall() {
        Doc.term(2, "or its RECALL is 3.");
        RingedLights x = Check.of("phase 0 0 recall 0;phase 0 0 recall 1;phase 0 0 recall 2;phase 0 0 recall 3;");
        for (int phase = 0; phase < 4; phase++) {
            Check.due("phase(" + phase + ", 5)", x, x.phase(phase, 5), phase == 3 ? 1 : 0, 0);
        }
        x.mark(3, 7, 2);
        Check.due("phase(3, 5)", x, x.phase(3, 5), 0, 0);
        x.mark(0, 7, 3);
        Check.due("phase(0, 5)", x, x.phase(0, 5), 1, 0);
    }

    private static void endOfAPhase() {
        Doc.term(4, "END of a PHASE: SPLITS of its ROW, from its first on, to its own, together.");
        RingedLights x = Check.of("phase 0 1 split 1;phase 0 0 split 2;phase 1 0 split 4;phase 0 0 split 8;phase 0 1 split 16;"
                + "phase 1 1 split 32;phase 1 0 split 0;");
        int[] ends = {11, 2, 4, 10, 27, 36, 4};
        for (int phase = 0; phase < 7; phase++) {
            Check.due("phase(" + phase + ", 7)", x, x.phase(phase, 7), ends[phase], 0);
        }
        StringBuilder eight = new StringBuilder();
        for (int i = 0; i < 8; i++) {
            eight.append("phase 1 1 split 60;");
        }
        x = Check.of(eight.toString());
        Check.due("phase(0, 7): the first", x, x.phase(0, 7), 60, 0);
        Check.due("phase(7, 7): all together", x, x.phase(7, 7), 480, 0);
        Check.due("phase(0, 7) without splits", Check.of("phase 0 0;").phase(0, 7), 0);
    }

    private static void foesOfAPhase() {
        Doc.term(1, "FOES: two unlike PHASES of one RING, or of unlike SIDES.");
        RingedLights x = Check.of("phase 0 0;phase 1 0;phase 0 1;phase 1 1;phase 0 0;phase 1 0;phase 0 1;phase 1 1;");
        // those of the other side, and of its own the other one of its ring
        int[] foes = {204 + 16, 204 + 32, 51 + 64, 51 + 128, 204 + 1, 204 + 2, 51 + 4, 51 + 8};
        for (int phase = 0; phase < 8; phase++) {
            Check.due("phase(" + phase + ", 8)", x, x.phase(phase, 8), foes[phase], 0);
        }
        Check.due("phase(0, 8) of one alone", Check.of("phase 1 1;").phase(0, 8), 0);
        Check.due("phase(0, 8) of two friends", Check.of("phase 1 1;phase 0 1;").phase(0, 8), 0);
    }

    // ---- promise 9

    private static void markedOfWhat() {
        Doc.promise(9, "A MARK (0 to 9) of a PHASE (1; 2).");
        RingedLights x = busy();
        int[] marks = {5, 2, 20, 3, 1, 3, 2, 0, 4, 0};
        for (int mark = 0; mark < 10; mark++) {
            Check.due("marked(0, " + mark + ")", x, x.marked(0, mark), marks[mark], 0);
        }
        Check.refused("marked(0, 10)", x, x.marked(0, 10), 1);
        for (int mark : WILD) {
            Check.refused("marked(0, " + mark + ")", x, x.marked(0, mark), 1);
            Check.refused("marked(3, " + mark + ")", x, x.marked(3, mark), 1);
        }
    }

    private static void markedOfAnother() {
        Doc.term(7, "2 no such PHASE, RING, BREAK.");
        RingedLights x = busy();
        for (int phase : new int[] {-1, 3, 8, Integer.MIN_VALUE, Integer.MAX_VALUE}) {
            Check.refused("marked(" + phase + ", 0)", x, x.marked(phase, 0), 2);
            Check.refused("marked(" + phase + ", 9)", x, x.marked(phase, 9), 2);
            Check.refused("marked(" + phase + ", 10): 1 goes ahead of 2", x, x.marked(phase, 10), 1);
        }
    }

    // ---- promise 10

    private static void brakeOfWhat() {
        Doc.promise(10, "5: 1 if it is WANTED, else 0 (1; 2).");
        RingedLights x = busy();
        int[] train = {1, 2, 5, 3, 4, 0};
        for (int what = 0; what < 6; what++) {
            Check.due("brake(0, " + what + ")", x, x.brake(0, what), train[what], 0);
            Check.due("brake(1, " + what + ")", x, x.brake(1, what), 0, 0);
        }
        x.ask(0);
        Check.due("brake(0, 5)", x, x.brake(0, 5), 1, 0);
        Check.due("brake(1, 5)", x, x.brake(1, 5), 0, 0);
        x.let(0);
        Check.due("brake(0, 5)", x, x.brake(0, 5), 0, 0);
        Check.refused("brake(0, 6)", x, x.brake(0, 6), 1);
        for (int what : WILD) {
            Check.refused("brake(0, " + what + ")", x, x.brake(0, what), 1);
            Check.refused("brake(2, " + what + ")", x, x.brake(2, what), 1);
        }
    }

    private static void brakeOfAnother() {
        Doc.term(7, "2 no such PHASE, RING, BREAK.");
        RingedLights x = busy();
        for (int brake : new int[] {-1, 2, Integer.MIN_VALUE, Integer.MAX_VALUE}) {
            Check.refused("brake(" + brake + ", 0)", x, x.brake(brake, 0), 2);
            Check.refused("brake(" + brake + ", 5)", x, x.brake(brake, 5), 2);
            Check.refused("brake(" + brake + ", 6): 1 goes ahead of 2", x, x.brake(brake, 6), 1);
        }
    }

    // ---- promise 11

    private static void sumOfWhat() {
        Doc.promise(11, "SHOWN, as a SET (5) (1).");
        RingedLights x = busy();
        int[] sums = {0, 12, 4, 4, 1, 5};
        for (int what = 0; what < 6; what++) {
            Check.due("sum(" + what + ")", x, x.sum(what), sums[what], 0);
        }
        Check.refused("sum(6)", x, x.sum(6), 1);
        for (int what : WILD) {
            Check.refused("sum(" + what + ")", x, x.sum(what), 1);
        }
    }

    private static void sumWithoutQueues() {
        Doc.promise(11, "the greatest QUEUE (3), its first PHASE (4; NONE: all are 0)");
        RingedLights x = Check.of(FOUR);
        Check.due("sum(2)", x, x.sum(2), 0, 0);
        Check.due("sum(3)", x, x.sum(3), 0, 0);
        Check.due("sum(4)", x, x.sum(4), -1, 0);
        x.come(0, 1);
        Check.due("sum(4)", x, x.sum(4), 0, 0);
        x.tick(2);
        Check.due("sum(0)", x, x.sum(0), 1, 0);
        Check.due("sum(3)", x, x.sum(3), 0, 0);
        Check.due("sum(4): all are 0 again", x, x.sum(4), -1, 0);
        x = new RingedLights();
        Check.due("sum(3) without phases", x, x.sum(3), 0, 0);
        Check.due("sum(4) without phases", x, x.sum(4), -1, 0);
    }

    private static void sumOfTheGreatestQueue() {
        Doc.promise(11, "QUEUES of all (2), the greatest QUEUE (3), its first PHASE");
        RingedLights x = Check.of("phase 0 0;phase 0 0;phase 0 0;phase 0 0;phase 0 0;phase 0 0;phase 0 0;phase 0 0;");
        x.come(7, 99);
        Check.due("sum(3)", x, x.sum(3), 99, 0);
        Check.due("sum(4): the last", x, x.sum(4), 7, 0);
        x.come(3, 98);
        Check.due("sum(4)", x, x.sum(4), 7, 0);
        x.come(3, 1);
        Check.due("sum(4): of two the first", x, x.sum(4), 3, 0);
        for (int phase = 0; phase < 7; phase++) {
            x.come(phase, 99);
        }
        Check.due("sum(2): eight of 99", x, x.sum(2), 792, 0);
        Check.due("sum(4)", x, x.sum(4), 0, 0);
    }

    private static void sumOfShown() {
        Doc.term(3, "SHOWN are the PHASES that RINGS are AT with GREEN or YELLOW, and those whose lamps STICK.");
        RingedLights x = Check.of("phase 0 0 min 1 pass 1 yellow 1 clear 1;phase 0 1;phase 1 0 min 1 pass 1 yellow 3;");
        Check.due("sum(5): none", x, x.sum(5), 0, 0);
        x.tick(1);
        Check.due("sum(5): two green", x, x.sum(5), 5, 0);
        x.call(1, false);
        x.tick(1);
        Check.due("sum(5): two yellow", x, x.sum(5), 5, 0);
        x.tick(1);
        Check.due("sum(5): a red one is not", x, x.sum(5), 4, 0);
        x.stick(1, true);
        Check.due("sum(5): one that sticks is", x, x.sum(5), 6, 0);
        x.stick(2, true);
        Check.due("sum(5): once", x, x.sum(5), 6, 0);
    }

    // ---- promise 12

    private static void eventOfWhat() {
        Doc.promise(12, "Of the i-th EVENT, the latest first (0 to 31), what 0: kind, 1: TICK, 2: which (1; 5)");
        RingedLights x = busy();
        Check.event(x, 0, 0, 1, 2);
        Check.event(x, 1, 0, 1, 0);
        Check.refused("event(0, 3)", x, x.event(0, 3), 1);
        Check.refused("event(32, 0)", x, x.event(32, 0), 1);
        Check.refused("event(31, 3): 1 goes ahead of 5", x, x.event(31, 3), 1);
        Check.refused("event(32, 3)", x, x.event(32, 3), 1);
        for (int i : WILD) {
            Check.refused("event(0, " + i + ")", x, x.event(0, i), 1);
            Check.refused("event(" + i + ", 0)", x, x.event(i, 0), 1);
            Check.refused("event(2, " + i + "): 1 goes ahead of 5", x, x.event(2, i), 1);
        }
    }

    private static void eventOfEachKind() {
        Doc.term(6, "0 a PHASE BECOMES GREEN, 1 a RING LEAVES one, 2 a BREAK begins, 3 it ends (by 0, too), 4 a FLASH, 5 it is reset; "
                + "of each the TICK, and the PHASE (2, 3: the BREAK;");
        RingedLights x = Check.of("phase 0 0" + QUICK + ";phase 0 1" + QUICK + ";break 1 track 0 0 dwell 2 0 cut 0;");
        x.tick(1);
        x.ask(1);
        x.tick(2);
        x.ask(0);
        x.tick(2);
        x.let(0);
        x.let(1);
        x.tick(1);
        x.stick(1, true);
        x.tick(1);
        x.tick(1);
        x.reset();
        // green; the engine and its yellow, green; ended by the train, yellow; its end, green; a flash; a reset
        int[][] events = {{0, 1, 0}, {2, 2, 1}, {1, 2, 0}, {0, 3, 1}, {3, 4, 1}, {2, 4, 0}, {1, 4, 1}, {3, 6, 0}, {0, 6, 0},
            {4, 7, 0}, {5, 8, -1}};
        for (int i = 0; i < events.length; i++) {
            int[] event = events[events.length - 1 - i];
            Check.event(x, i, event[0], event[1], event[2]);
        }
        Check.refused("event(11, 0)", x, x.event(11, 0), 5);
    }

    private static void eventThatThereIsNot() {
        Doc.term(7, "5 there is none.");
        RingedLights x = new RingedLights();
        for (int what = 0; what < 3; what++) {
            Check.refused("event(0, " + what + ") of a new object", x, x.event(0, what), 5);
        }
        x = busy();
        for (int what = 0; what < 3; what++) {
            Check.refused("event(2, " + what + ")", x, x.event(2, what), 5);
            Check.refused("event(31, " + what + ")", x, x.event(31, what), 5);
        }
    }

    private static void eventTellsNoneFromAnAnswer() {
        Doc.promise(12, "STATUS tells NONE from -1.");
        RingedLights x = Check.of(FOUR);
        x.stick(0, true);
        x.stick(1, true);
        x.tick(1);
        x.reset();
        Check.due("event(0, 0)", x, x.event(0, 0), 5, 0);
        Check.due("event(0, 1)", x, x.event(0, 1), 1, 0);
        Check.due("event(0, 2)", x, x.event(0, 2), -1, 0);
        Check.refused("event(9, 2)", x, x.event(9, 2), 5);
    }

    private static void eventsAreTheLatest32() {
        Doc.term(6, "EVENTS, the latest 32");
        RingedLights x = Check.of("phase 0 0 recall 1" + QUICK + ";phase 0 1 recall 1" + QUICK + ";");
        x.tick(31);
        Check.event(x, 30, 0, 1, 0);
        Check.refused("event(31, 0): one less than 32", x, x.event(31, 0), 5);
        x.tick(1);
        Check.event(x, 0, 1, 32, 1);
        Check.event(x, 31, 0, 1, 0);
        x.tick(1);
        Check.event(x, 0, 0, 33, 0);
        Check.event(x, 31, 1, 2, 0);
        x.tick(31);
        Check.event(x, 0, 1, 64, 1);
        Check.event(x, 31, 0, 33, 0);
        Check.refused("event(32, 0)", x, x.event(32, 0), 1);
    }

    private static void lookingChangesNothing() {
        Doc.term(7, "With another STATUS than 0 a call gives NONE, or false, and changes nothing else");
        Still.refused("many(12)", LookBoundsTest::busy, x -> x.many(12), 1);
        Still.refused("ring(2, 0)", LookBoundsTest::busy, x -> x.ring(2, 0), 2);
        Still.refused("phase(3, 0)", LookBoundsTest::busy, x -> x.phase(3, 0), 2);
        Still.refused("marked(3, 0)", LookBoundsTest::busy, x -> x.marked(3, 0), 2);
        Still.refused("brake(2, 0)", LookBoundsTest::busy, x -> x.brake(2, 0), 2);
        Still.refused("sum(6)", LookBoundsTest::busy, x -> x.sum(6), 1);
        Still.refused("event(31, 0)", LookBoundsTest::busy, x -> x.event(31, 0), 5);
    }
}
