/** The bounds that promises 13 to 16, 20, 21 and 24 to 27 name, of what is done and who goes with whom: a test for each. */
public final class ActBoundsTest {
    private static final String FOUR = "phase 0 0;phase 0 1;phase 1 0;phase 1 1;";
    private static final int[] NO_PHASE = {-1, 4, 8, Integer.MIN_VALUE, Integer.MAX_VALUE};

    private ActBoundsTest() {
    }

    public static void main(String[] args) {
        markOfEachKind();
        markOfNoKind();
        markOfNoPhase();
        markAsItIs();
        clockCycle();
        clockOffset();
        clockOfAnother();
        clockAsItIs();
        clockOfANewCycle();
        clockWithoutCycle();
        callOfNoPhase();
        callThatWaits();
        callOfAGreenOne();
        callOnFootOfAGreenOne();
        callOnFootWithoutWalk();
        callInAFlash();
        comeTooFewTooMany();
        comeOfNoPhase();
        comeAbove99();
        stickOfNoPhase();
        stickAsItIs();
        resetWithoutAFlash();
        resetIsAStart();
        keepAFourth();
        backWithoutAMark();
        backToTheLatest();
        backTakesAllBack();
        foesOfNoPhase();
        foesOfItself();
        setsOfAnother();
        setsWithoutPhases();
        setsOfEachSize();
        setsWithTheMostInQueues();
        Check.end();
    }

    private static RingedLights busy() {
        RingedLights x = Check.of("phase 0 0 walk 9 halt 2;phase 0 1 walk 4;phase 1 0;phase 1 1;cycle 40;offset 5;"
                + "break 0 track 1 2 dwell 5 3 cut 4;");
        x.come(1, 99);
        x.call(0, true);
        x.keep();
        x.tick(3);
        x.call(3, false);
        x.call(0, false);
        x.call(1, true);
        x.stick(2, true);
        x.keep();
        return x;
    }

    private static RingedLights flashing() {
        RingedLights x = busy();
        x.stick(3, true);
        x.tick(1);
        Check.due("many(5)", x.many(5), 1);
        return x;
    }

    private static RingedLights threeKept() {
        RingedLights x = busy();
        x.keep();
        return x;
    }

    // ---- promise 13

    private static void markOfEachKind() {
        Doc.promise(13, "A PHASE has another MARK from now on: what it had (1; 2).");
        int[] least = {1, 1, 1, 1, 0, 0, 0, 0, 0, 0};
        int[] most = {30, 9, 60, 5, 4, 20, 20, 3, 60, 30};
        int[] without = {5, 2, 20, 3, 1, 0, 0, 0, 0, 0};
        RingedLights x = Check.of(FOUR);
        for (int mark = 0; mark < 10; mark++) {
            Check.refused("mark(3, " + mark + ", below)", x, x.mark(3, mark, least[mark] - 1), 1);
            Check.refused("mark(3, " + mark + ", above)", x, x.mark(3, mark, most[mark] + 1), 1);
            Check.refused("mark(3, " + mark + ", most int)", x, x.mark(3, mark, Integer.MAX_VALUE), 1);
            Check.refused("mark(3, " + mark + ", least int)", x, x.mark(3, mark, Integer.MIN_VALUE), 1);
            Check.due("marked(3, " + mark + ")", x, x.marked(3, mark), without[mark], 0);
            Check.due("mark(3, " + mark + ", least)", x, x.mark(3, mark, least[mark]), without[mark], 0);
            Check.due("marked(3, " + mark + ")", x, x.marked(3, mark), least[mark], 0);
            Check.due("mark(3, " + mark + ", most)", x, x.mark(3, mark, most[mark]), least[mark], 0);
            Check.due("marked(3, " + mark + ")", x, x.marked(3, mark), most[mark], 0);
            Check.due("marked(2, " + mark + ")", x, x.marked(2, mark), without[mark], 0);
        }
    }

    private static void markOfNoKind() {
        Doc.term(7, "1 a number that can't be");
        RingedLights x = Check.of(FOUR);
        for (int mark : new int[] {-2, -1, 10, 11, 20, 80, Integer.MIN_VALUE, Integer.MAX_VALUE}) {
            Check.refused("mark(0, " + mark + ", 0)", x, x.mark(0, mark, 0), 1);
            Check.refused("mark(0, " + mark + ", 1)", x, x.mark(0, mark, 1), 1);
            Check.refused("mark(1, " + mark + ", 0)", x, x.mark(1, mark, 0), 1);
        }
        Still.refused("mark(0, 10, 0)", ActBoundsTest::busy, y -> y.mark(0, 10, 0), 1);
        Still.refused("mark(1, -1, 1)", ActBoundsTest::busy, y -> y.mark(1, -1, 1), 1);
        Still.refused("mark(0, 0, 31)", ActBoundsTest::busy, y -> y.mark(0, 0, 31), 1);
    }

    private static void markOfNoPhase() {
        Doc.promise(13, "(1; 2)");
        RingedLights x = Check.of(FOUR);
        for (int phase : NO_PHASE) {
            Check.refused("mark(" + phase + ", 0, 1)", x, x.mark(phase, 0, 1), 2);
            Check.refused("mark(" + phase + ", 9, 30)", x, x.mark(phase, 9, 30), 2);
            Check.refused("mark(" + phase + ", 0, 0): 1 goes ahead of 2", x, x.mark(phase, 0, 0), 1);
            Check.refused("mark(" + phase + ", 10, 1): 1 goes ahead of 2", x, x.mark(phase, 10, 1), 1);
        }
        Still.refused("mark(4, 0, 1)", ActBoundsTest::busy, y -> y.mark(4, 0, 1), 2);
    }

    private static void markAsItIs() {
        Doc.promise(13, "what it had (1; 2)");
        Still.answered("mark(0, 0, 5)", ActBoundsTest::busy, y -> y.mark(0, 0, 5), 5);
        Still.answered("mark(0, 5, 9)", ActBoundsTest::busy, y -> y.mark(0, 5, 9), 9);
    }

    // ---- promise 14

    private static void clockCycle() {
        Doc.promise(14, "CYCLE (what 0), OFFSET (1) from now on");
        RingedLights x = Check.of(FOUR);
        Check.due("clock(0, 20)", x, x.clock(0, 20), 0, 0);
        Check.due("clock(0, 240)", x, x.clock(0, 240), 20, 0);
        for (int much : new int[] {-1, 1, 19, 241, Integer.MIN_VALUE, Integer.MAX_VALUE}) {
            Check.refused("clock(0, " + much + ")", x, x.clock(0, much), 1);
            Check.due("many(2)", x, x.many(2), 240, 0);
        }
        Check.due("clock(0, 0)", x, x.clock(0, 0), 240, 0);
        Check.due("many(2)", x, x.many(2), 0, 0);
        Still.refused("clock(0, 19)", ActBoundsTest::busy, y -> y.clock(0, 19), 1);
        Still.refused("clock(0, 241)", ActBoundsTest::busy, y -> y.clock(0, 241), 1);
    }

    private static void clockOffset() {
        Doc.promise(14, "CYCLE (what 0), OFFSET (1) from now on");
        RingedLights x = Check.of(FOUR);
        Check.due("clock(1, 239)", x, x.clock(1, 239), 0, 0);
        for (int much : new int[] {-1, 240, Integer.MIN_VALUE, Integer.MAX_VALUE}) {
            Check.refused("clock(1, " + much + ")", x, x.clock(1, much), 1);
            Check.due("many(3)", x, x.many(3), 239, 0);
        }
        Check.due("clock(1, 0)", x, x.clock(1, 0), 239, 0);
        Check.due("clock(1, 1)", x, x.clock(1, 1), 0, 0);
        Check.due("many(3)", x, x.many(3), 1, 0);
        Still.refused("clock(1, 240)", ActBoundsTest::busy, y -> y.clock(1, 240), 1);
    }

    private static void clockOfAnother() {
        Doc.promise(14, "what it was (1; 4)");
        RingedLights x = Check.of(FOUR);
        for (int what : new int[] {-1, 2, Integer.MIN_VALUE, Integer.MAX_VALUE}) {
            Check.refused("clock(" + what + ", 0)", x, x.clock(what, 0), 1);
            Check.refused("clock(" + what + ", 40)", x, x.clock(what, 40), 1);
        }
        Still.refused("clock(2, 20)", ActBoundsTest::busy, y -> y.clock(2, 20), 1);
    }

    private static void clockAsItIs() {
        Doc.term(7, "4 it is so.");
        Still.refused("clock(0, 40)", ActBoundsTest::busy, y -> y.clock(0, 40), 4);
        Still.refused("clock(1, 5)", ActBoundsTest::busy, y -> y.clock(1, 5), 4);
        RingedLights x = Check.of(FOUR);
        Check.refused("clock(0, 0) without CYCLE", x, x.clock(0, 0), 4);
        Check.refused("clock(1, 0) without OFFSET", x, x.clock(1, 0), 4);
    }

    private static void clockOfANewCycle() {
        Doc.promise(14, "(with a new CYCLE the CLOCK is what is left of it by that, 0 without CYCLE)");
        RingedLights x = Check.of("cycle 240;");
        x.tick(239);
        x.keep();
        x.clock(0, 20);
        Check.due("many(4): 239 by 20", x, x.many(4), 19, 0);
        x.back();
        x.tick(1);
        x.tick(40);
        x.keep();
        x.clock(0, 40);
        Check.due("many(4): 40 by 40", x, x.many(4), 0, 0);
        x.back();
        x.clock(0, 41);
        Check.due("many(4): 40 by 41", x, x.many(4), 40, 0);
        x.tick(1);
        Check.due("many(4): round", x, x.many(4), 0, 0);
        x.tick(7);
        // 35 ahead of 41 is nearer the other way: at the ticks 284 and 288 one less
        Check.due("many(4)", x, x.many(4), 5, 0);
        x.clock(1, 9);
        Check.due("many(4): with a new OFFSET as it was", x, x.many(4), 5, 0);
    }

    private static void clockWithoutCycle() {
        Doc.promise(14, "0 without CYCLE");
        RingedLights x = Check.of("cycle 240;");
        x.tick(100);
        x.clock(0, 0);
        Check.due("many(4)", x, x.many(4), 0, 0);
        x.tick(10);
        Check.due("many(4)", x, x.many(4), 0, 0);
        x.clock(0, 20);
        Check.due("many(4)", x, x.many(4), 0, 0);
        x.tick(1);
        Check.due("many(4)", x, x.many(4), 1, 0);
    }

    // ---- promise 15

    private static void callOfNoPhase() {
        Doc.promise(15, "true (2; 4: a call waits; 5: on foot, without WALK; 8)");
        RingedLights x = busy();
        RingedLights none = new RingedLights();
        for (int phase : NO_PHASE) {
            Check.due("call(" + phase + ", false)", x, x.call(phase, false), 2);
            Check.due("call(" + phase + ", true): 2 goes ahead of 5", x, x.call(phase, true), 2);
        }
        Check.due("call(0, false) without phases", none, none.call(0, false), 2);
        Still.denied("call(4, false)", ActBoundsTest::busy, y -> y.call(4, false), 2);
    }

    private static void callThatWaits() {
        Doc.promise(15, "4: a call waits");
        Still.denied("call(3, false)", ActBoundsTest::busy, y -> y.call(3, false), 4);
        Still.denied("call(1, true)", ActBoundsTest::busy, y -> y.call(1, true), 4);
        RingedLights x = busy();
        Check.due("call(1, false): a queue and a call on foot are no call", x, x.call(1, false), 0);
        Check.due("call(1, false)", x, x.call(1, false), 4);
        x.mark(1, 5, 0);
        Check.due("call(1, true): 4 goes ahead of 5", x, x.call(1, true), 4);
        x.mark(2, 7, 1);
        Check.due("call(2, false): a recall is no call", x, x.call(2, false), 0);
    }

    private static void callOfAGreenOne() {
        Doc.promise(15, "a call waits, but for one that its RING is AT with GREEN (that was called for its GAP alone");
        RingedLights x = Check.of("phase 0 0 min 1 pass 9 yellow 2;phase 0 1;phase 1 0 pass 9;");
        x.tick(4);
        Check.due("call(0, false)", x, x.call(0, false), 0);
        Check.due("call(2, false)", x, x.call(2, false), 0);
        Check.due("phase(0, 4): no call waits", x, x.phase(0, 4), 0, 0);
        Check.due("call(0, false) once more: no call waits", x, x.call(0, false), 0);
        x.tick(1);
        Check.ring(x, 0, 0, 0, 4, -1, 0);
        Check.ring(x, 1, 2, 0, 4, -1, 0);
        x.tick(1);
        Check.ring(x, 0, 0, 0, 5, -1, 1);
        Check.ring(x, 1, 2, 0, 5, -1, 1);
        x.mark(0, 1, 1);
        x.mark(2, 1, 1);
        x.call(1, false);
        x.tick(1);
        Check.ring(x, 0, 0, 1, 0, 1);
        Check.due("call(0, false) of a yellow one", x, x.call(0, false), 0);
        Check.due("phase(0, 4): it waits", x, x.phase(0, 4), 1, 0);
        Check.due("call(0, false)", x, x.call(0, false), 4);
    }

    private static void callOnFootOfAGreenOne() {
        Doc.promise(15, "on foot it waits still");
        RingedLights x = Check.of("phase 0 0 walk 1 min 1 pass 9;phase 0 1;");
        x.tick(3);
        Check.due("call(0, true)", x, x.call(0, true), 0);
        Check.due("phase(0, 5)", x, x.phase(0, 5), 1, 0);
        Check.due("call(0, true): it waits", x, x.call(0, true), 4);
        x.tick(1);
        Check.ring(x, 0, 0, 0, 3, -1, 3, 0, 0);
        Check.due("phase(0, 5): it waits still", x, x.phase(0, 5), 1, 0);
    }

    private static void callOnFootWithoutWalk() {
        Doc.promise(15, "5: on foot, without WALK");
        Still.denied("call(2, true)", ActBoundsTest::busy, y -> y.call(2, true), 5);
        RingedLights x = busy();
        x.mark(2, 5, 1);
        Check.due("call(2, true) with a WALK of 1", x, x.call(2, true), 0);
        x.mark(3, 7, 3);
        Check.due("call(3, true): on foot by its recall, without WALK", x, x.call(3, true), 5);
        x.mark(0, 5, 0);
        Check.due("call(0, true) of a green one", x, x.call(0, true), 5);
    }

    private static void callInAFlash() {
        Doc.term(7, "8 there is a FLASH.");
        Still.denied("call(2, false) in a flash", ActBoundsTest::flashing, y -> y.call(2, false), 8);
        Still.denied("call(0, true) in a flash", ActBoundsTest::flashing, y -> y.call(0, true), 8);
        Still.denied("call(3, false): 4 goes ahead of 8", ActBoundsTest::flashing, y -> y.call(3, false), 4);
        Still.denied("call(1, true): 4 goes ahead of 8", ActBoundsTest::flashing, y -> y.call(1, true), 4);
        Still.denied("call(2, true): 5 goes ahead of 8", ActBoundsTest::flashing, y -> y.call(2, true), 5);
        Still.denied("call(4, true): 2 goes ahead of 8", ActBoundsTest::flashing, y -> y.call(4, true), 2);
        RingedLights x = flashing();
        Check.due("reset()", x, x.reset(), 0);
        Check.due("call(2, false) behind it", x, x.call(2, false), 0);
    }

    // ---- promise 16

    private static void comeTooFewTooMany() {
        Doc.promise(16, "n more wait in its QUEUE (1 to 99): how many then");
        RingedLights x = Check.of(FOUR);
        Check.due("come(0, 1)", x, x.come(0, 1), 1, 0);
        Check.due("come(1, 99)", x, x.come(1, 99), 99, 0);
        for (int n : new int[] {0, -1, 100, Integer.MIN_VALUE, Integer.MAX_VALUE}) {
            Check.refused("come(0, " + n + ")", x, x.come(0, n), 1);
            Check.refused("come(1, " + n + "): 1 goes ahead of 3", x, x.come(1, n), 1);
        }
        Still.refused("come(0, 0)", ActBoundsTest::busy, y -> y.come(0, 0), 1);
        Still.refused("come(0, 100)", ActBoundsTest::busy, y -> y.come(0, 100), 1);
    }

    private static void comeOfNoPhase() {
        Doc.promise(16, "(1; 2; 3: above 99)");
        RingedLights x = Check.of(FOUR);
        for (int phase : NO_PHASE) {
            Check.refused("come(" + phase + ", 1)", x, x.come(phase, 1), 2);
            Check.refused("come(" + phase + ", 99)", x, x.come(phase, 99), 2);
            Check.refused("come(" + phase + ", 0): 1 goes ahead of 2", x, x.come(phase, 0), 1);
        }
        Still.refused("come(4, 1)", ActBoundsTest::busy, y -> y.come(4, 1), 2);
    }

    private static void comeAbove99() {
        Doc.promise(16, "3: above 99");
        RingedLights x = Check.of(FOUR);
        x.come(0, 98);
        Check.refused("come(0, 2)", x, x.come(0, 2), 3);
        Check.due("phase(0, 3): none of them came", x, x.phase(0, 3), 98, 0);
        Check.due("come(0, 1)", x, x.come(0, 1), 99, 0);
        Check.refused("come(0, 1)", x, x.come(0, 1), 3);
        Check.refused("come(0, 99)", x, x.come(0, 99), 3);
        x.tick(2);
        Check.due("come(0, 1): one was let go", x, x.come(0, 1), 99, 0);
        Still.refused("come(1, 1)", ActBoundsTest::busy, y -> y.come(1, 1), 3);
    }

    // ---- promises 20 and 21

    private static void stickOfNoPhase() {
        Doc.promise(20, "A lamp STICKS from now on, or no more (2; 4).");
        RingedLights x = Check.of(FOUR);
        for (int phase : NO_PHASE) {
            Check.due("stick(" + phase + ", true)", x, x.stick(phase, true), 2);
            Check.due("stick(" + phase + ", false): 2 goes ahead of 4", x, x.stick(phase, false), 2);
        }
        Still.denied("stick(4, true)", ActBoundsTest::busy, y -> y.stick(4, true), 2);
    }

    private static void stickAsItIs() {
        Doc.promise(20, "(2; 4)");
        Still.denied("stick(2, true)", ActBoundsTest::busy, y -> y.stick(2, true), 4);
        Still.denied("stick(1, false)", ActBoundsTest::busy, y -> y.stick(1, false), 4);
        Still.denied("stick(0, false) of a green one", ActBoundsTest::busy, y -> y.stick(0, false), 4);
        RingedLights x = flashing();
        Check.due("stick(3, true) in a flash", x, x.stick(3, true), 4);
        Check.due("stick(3, false) in a flash", x, x.stick(3, false), 0);
        Check.due("many(6)", x, x.many(6), 4, 0);
    }

    private static void resetWithoutAFlash() {
        Doc.promise(21, "The FLASH is over: a START (5).");
        Still.denied("reset()", ActBoundsTest::busy, RingedLights::reset, 5);
        RingedLights x = flashing();
        Check.due("reset()", x, x.reset(), 0);
        Check.due("reset() once more", x, x.reset(), 5);
        x = new RingedLights();
        Check.due("reset() of a new object", x, x.reset(), 5);
    }

    private static void resetIsAStart() {
        Doc.promise(21, "a START");
        RingedLights x = flashing();
        Check.ring(x, 0, -1, 3, 0, -1);
        x.reset();
        Check.ring(x, 0, -1, 3, 0, 0);
        Check.ring(x, 1, -1, 3, 0, 2);
        Check.due("many(1): no tick went by", x, x.many(1), 4, 0);
        Check.due("many(6): the lamps stick still", x, x.many(6), 12, 0);
        Check.due("phase(1, 3): the queue waits still", x, x.phase(1, 3), 99, 0);
        Check.due("phase(1, 5): the call on foot waits still", x, x.phase(1, 5), 1, 0);
        Check.due("phase(3, 4): the call waits still", x, x.phase(3, 4), 1, 0);
        x = Check.of("phase 1 1;phase 1 1;");
        x.stick(0, true);
        x.stick(1, true);
        x.tick(1);
        Check.due("reset()", x, x.reset(), 0);
        Check.ring(x, 0, -1, 3, 0, -1);
        Check.ring(x, 1, -1, 3, 0, 0);
    }

    // ---- promises 24 and 25

    private static void keepAFourth() {
        Doc.term(6, "MARKS (of all), at most 3");
        Doc.promise(24, "A MARK of all more: how many (3).");
        RingedLights x = new RingedLights();
        for (int i = 1; i <= 3; i++) {
            Check.due("keep()", x, x.keep(), i, 0);
            Check.due("many(11)", x, x.many(11), i, 0);
        }
        Check.refused("keep() a fourth", x, x.keep(), 3);
        Check.due("many(11)", x, x.many(11), 3, 0);
        Check.due("back()", x, x.back(), 2, 0);
        Check.due("keep()", x, x.keep(), 3, 0);
        Still.refused("keep() a fourth", ActBoundsTest::threeKept, RingedLights::keep, 3);
    }

    private static void backWithoutAMark() {
        Doc.promise(25, "how many are left (5)");
        RingedLights x = Check.of(FOUR);
        x.tick(2);
        Check.refused("back()", x, x.back(), 5);
        Check.due("many(1)", x, x.many(1), 2, 0);
        x.keep();
        Check.due("back()", x, x.back(), 0, 0);
        Check.refused("back() once more", x, x.back(), 5);
        Still.refused("back()", () -> Check.of(FOUR), RingedLights::back, 5);
    }

    private static void backToTheLatest() {
        Doc.term(6, "all is taken back to the latest one, which is gone then");
        RingedLights x = Check.of(FOUR);
        for (int i = 1; i <= 3; i++) {
            x.tick(i);
            x.keep();
        }
        x.tick(10);
        x.keep();
        int[] ticks = {6, 3, 1};
        for (int i = 0; i < 3; i++) {
            Check.due("back()", x, x.back(), 2 - i, 0);
            Check.due("many(1)", x, x.many(1), ticks[i], 0);
            Check.due("many(11)", x, x.many(11), 2 - i, 0);
            x.tick(50);
        }
        Check.refused("back()", x, x.back(), 5);
        Check.due("many(1)", x, x.many(1), 51, 0);
    }

    private static void backTakesAllBack() {
        Doc.promise(25, "All is taken back to the latest MARK of all: how many are left");
        RingedLights x = busy();
        x.come(0, 9);
        x.ask(0);
        x.run(30, 8);
        x.let(0);
        x.mark(2, 2, 60);
        x.clock(0, 0);
        x.clock(1, 0);
        x.brakes(1, 2, 3, 2, 3, 4);
        x.stick(0, true);
        x.stick(1, true);
        x.tick(1);
        x.reset();
        Check.due("back()", x, x.back(), 1, 0);
        RingedLights other = busy();
        other.back();
        Check.due("all is as it was", Whole.andOn(x).equals(Whole.andOn(other)), true);
    }

    // ---- promises 26 and 27

    private static void foesOfNoPhase() {
        Doc.promise(26, "1 if two PHASES are FOES, else 0 (2).");
        RingedLights x = Check.of(FOUR);
        for (int phase : NO_PHASE) {
            Check.refused("foes(0, " + phase + ")", x, x.foes(0, phase), 2);
            Check.refused("foes(" + phase + ", 0)", x, x.foes(phase, 0), 2);
            Check.refused("foes(" + phase + ", itself)", x, x.foes(phase, phase), 2);
        }
        Still.refused("foes(3, 4)", ActBoundsTest::busy, y -> y.foes(3, 4), 2);
        Still.answered("foes(3, 0)", ActBoundsTest::busy, y -> y.foes(3, 0), 1);
    }

    private static void foesOfItself() {
        Doc.term(1, "FOES: two unlike PHASES of one RING, or of unlike SIDES.");
        RingedLights x = Check.of(FOUR + "phase 0 0;");
        for (int phase = 0; phase < 5; phase++) {
            Check.due("foes(" + phase + ", itself)", x, x.foes(phase, phase), 0, 0);
        }
        Check.due("foes(0, 4): one ring, one side", x, x.foes(0, 4), 1, 0);
        Check.due("foes(0, 1): one ring, unlike sides", x, x.foes(0, 1), 1, 0);
        Check.due("foes(0, 3): unlike rings and sides", x, x.foes(0, 3), 1, 0);
        Check.due("foes(0, 2): unlike rings, one side", x, x.foes(0, 2), 0, 0);
        Check.due("foes(2, 0)", x, x.foes(2, 0), 0, 0);
    }

    private static void setsOfAnother() {
        Doc.promise(27, "0 without PHASES (1).");
        RingedLights none = new RingedLights();
        RingedLights x = Check.of(FOUR);
        for (int what : new int[] {-1, 2, Integer.MIN_VALUE, Integer.MAX_VALUE}) {
            Check.refused("sets(" + what + ")", x, x.sets(what), 1);
            Check.refused("sets(" + what + ") without phases", none, none.sets(what), 1);
        }
        Still.refused("sets(2)", ActBoundsTest::busy, y -> y.sets(2), 1);
        Still.answered("sets(0)", ActBoundsTest::busy, y -> y.sets(0), 2);
        Still.answered("sets(1)", ActBoundsTest::busy, y -> y.sets(1), 10);
    }

    private static void setsWithoutPhases() {
        Doc.promise(27, "0 without PHASES");
        RingedLights x = new RingedLights();
        Check.due("sets(0)", x, x.sets(0), 0, 0);
        Check.due("sets(1)", x, x.sets(1), 0, 0);
    }

    private static void setsOfEachSize() {
        Doc.promise(27, "no two of which are FOES, to which no other PHASE could come so (what 0)");
        String[] texts = {"phase 0 0;", "phase 0 0;phase 1 0;", "phase 0 0;phase 0 1;", "phase 0 0;phase 1 1;",
            "phase 0 0;phase 1 0;phase 1 1;", FOUR, FOUR + FOUR};
        int[] sets = {1, 1, 2, 2, 2, 2, 8};
        int[] firsts = {1, 3, 1, 1, 3, 5, 5};
        for (int i = 0; i < texts.length; i++) {
            RingedLights x = Check.of(texts[i]);
            Check.due("sets(0) of " + texts[i], x, x.sets(0), sets[i], 0);
            Check.due("sets(1) of " + texts[i] + ": of several the least", x, x.sets(1), firsts[i], 0);
        }
    }

    private static void setsWithTheMostInQueues() {
        Doc.promise(27, "of these that with the most in QUEUES, together, of several the least SET (1)");
        RingedLights x = Check.of(FOUR);
        x.come(3, 2);
        Check.due("sets(1)", x, x.sets(1), 10, 0);
        x.come(0, 1);
        x.come(2, 1);
        Check.due("sets(1): two and two", x, x.sets(1), 5, 0);
        x.keep();
        x.come(0, 1);
        Check.due("sets(1): three and two", x, x.sets(1), 5, 0);
        x.back();
        x.come(1, 1);
        Check.due("sets(1): two and three", x, x.sets(1), 10, 0);
        x.come(0, 98);
        x.come(2, 98);
        x.come(1, 98);
        x.come(3, 97);
        Check.due("sets(1): 198 and 198", x, x.sets(1), 5, 0);
    }
}
