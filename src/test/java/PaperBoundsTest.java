/** The bounds that promises 28 to 31 and 33 to 35 name, of what is told on paper: a test for each sentence. */
public final class PaperBoundsTest {
    private static final int[] NO_PHASE = {-1, 4, 8, Integer.MIN_VALUE, Integer.MAX_VALUE};
    private static final String FOUR = "phase 0 0;phase 0 1;phase 1 0;phase 1 1;";

    private PaperBoundsTest() {
    }

    public static void main(String[] args) {
        whenOfNoPhase();
        whenItIs();
        whenNever();
        whenWithoutComers();
        whenWithin600();
        worstOfNoPhase();
        worstItIs();
        worstWithoutOthers();
        worstNever();
        worstWithin600();
        clearedTheyAre();
        clearedNever();
        clearedWithin600();
        instepItIs();
        instepWithoutCycle();
        instepByTheLongestWay();
        paperOfHowMany();
        paperOfWhat();
        paperWithoutComers();
        bestMaxOfHowMany();
        bestMaxOfNoPhase();
        bestMaxOfSeveral();
        bestMaxOfTheMost();
        cheapestOfHowMany();
        cheapestWithoutPhases();
        cheapestOfSeveral();
        cheapestByTen();
        cheapestOfAFullQueue();
        allStaysAsItIs();
        Check.end();
    }

    private static RingedLights busy() {
        RingedLights x = Check.of("phase 0 0 walk 2 halt 2;phase 0 1 rate 30;phase 1 0;phase 1 1 recall 1;cycle 30;offset 9;"
                + "break 0 track 1 2 dwell 5 3 cut 4;");
        x.come(1, 20);
        x.call(0, true);
        x.tick(9);
        x.call(0, false);
        x.call(2, false);
        x.keep();
        return x;
    }

    private static RingedLights flashing() {
        RingedLights x = busy();
        x.stick(0, true);
        x.stick(1, true);
        x.tick(1);
        Check.due("many(5)", x.many(5), 1);
        return x;
    }

    // ---- promise 28

    private static void whenOfNoPhase() {
        Doc.promise(28, "(0: it is) (2; 6).");
        RingedLights x = flashing();
        RingedLights none = new RingedLights();
        for (int phase : NO_PHASE) {
            Check.refused("when(" + phase + "): 2 goes ahead of 6", x, x.when(phase), 2);
        }
        Check.refused("when(0) without phases", none, none.when(0), 2);
        Still.refused("when(4)", PaperBoundsTest::busy, y -> y.when(4), 2);
    }

    private static void whenItIs() {
        Doc.promise(28, "In how many TICKS a PHASE is GREEN (0: it is)");
        RingedLights x = Check.of("phase 0 0 min 1 pass 1 yellow 1;phase 0 1;");
        Check.due("when(0) ahead of the first tick", x, x.when(0), 1, 0);
        x.tick(1);
        Check.due("when(0)", x, x.when(0), 0, 0);
        x.call(1, false);
        Check.due("when(1): yellow in 1, red in 2, green in 3", x, x.when(1), 3, 0);
        x.tick(1);
        x.call(0, false);
        Check.due("when(0) of a yellow one: not 0", x, x.when(0), 2 + 5 + 4, 0);
        x.tick(2);
        Check.due("when(1)", x, x.when(1), 0, 0);
    }

    private static void whenNever() {
        Doc.term(7, "6 it does not come to that.");
        Still.refused("when(0) in a flash", PaperBoundsTest::flashing, y -> y.when(0), 6);
        RingedLights x = Check.of("phase 0 0;phase 0 1;");
        Check.refused("when(1): nobody calls it", x, x.when(1), 6);
        x.call(1, false);
        Check.due("when(1)", x, x.when(1), 10, 0);
        x.brakes(0, 0, 0, 1, 0, 0);
        x.ask(0);
        Check.refused("when(1): a train for good", x, x.when(1), 6);
        x.let(0);
        x.stick(1, true);
        Check.refused("when(1): its lamp sticks, and brings a flash", x, x.when(1), 6);
    }

    private static void whenWithoutComers() {
        Doc.term(6, "TICKS go by without comers");
        RingedLights x = Check.of("phase 0 0;phase 0 1 rate 30;");
        Check.refused("when(1)", x, x.when(1), 6);
    }

    /** Each phase waits for its END, and the clock goes back by steps: the later phase 3 is green. */
    private static RingedLights slow(int offset) {
        RingedLights x = Check.of("cycle 240;offset " + offset + ";phase 1 1 split 30;phase 0 1 split 17;phase 0 0 split 9;"
                + "phase 1 1 split 1;phase 0 0 split 6;");
        for (int phase : new int[] {0, 1, 2, 4}) {
            x.come(phase, 99);
        }
        return x;
    }

    private static void whenWithin600() {
        Doc.term(6, "TICKS go by without comers, at most 600.");
        RingedLights x = slow(86);
        x.call(3, false);
        Check.due("when(3) in 600", x, x.when(3), 600, 0);
        x = slow(87);
        x.call(3, false);
        Check.refused("when(3) in 601", x, x.when(3), 6);
        x.tick(1);
        Check.due("when(3) behind a tick", x, x.when(3), 600, 0);
        x.tick(300);
        Check.due("when(3)", x, x.when(3), 300, 0);
        x.tick(299);
        Check.due("phase(3, 2) at 600", x, x.phase(3, 2), 0, 0);
        x.tick(1);
        Check.due("phase(3, 2) at 601", x, x.phase(3, 2), 2, 0);
    }

    // ---- promise 29

    private static void worstOfNoPhase() {
        Doc.promise(29, "(2; 6)");
        RingedLights x = flashing();
        for (int phase : NO_PHASE) {
            Check.refused("worst(" + phase + "): 2 goes ahead of 6", x, x.worst(phase), 2);
        }
        Still.refused("worst(4)", PaperBoundsTest::busy, y -> y.worst(4), 2);
    }

    private static void worstItIs() {
        Doc.promise(29, "So, if all others are called, ahead of each TICK, and it itself now (2; 6).");
        RingedLights x = Check.of("phase 0 0 max 9;phase 0 1;phase 1 0;");
        x.tick(1);
        Check.due("worst(0): it is", x, x.worst(0), 0, 0);
        Check.due("worst(2): it is", x, x.worst(2), 0, 0);
        // 0 and 2 are called ahead of each tick, so that they leave by their most alone: 9 and 20
        Check.due("worst(1)", x, x.worst(1), 20 + 4, 0);
        x.mark(2, 2, 10);
        Check.due("worst(1)", x, x.worst(1), 10 + 4, 0);
        Check.due("phase(1, 4): on paper alone", x, x.phase(1, 4), 0, 0);
        x.tick(1);
        Check.ring(x, 0, 0, 0, 1, -1, 1, 0);
    }

    private static void worstWithoutOthers() {
        Doc.promise(29, "if all others are called");
        RingedLights x = Check.of("phase 1 1;");
        Check.due("worst(0) of one alone", x, x.worst(0), 1, 0);
        x.tick(9);
        Check.due("worst(0)", x, x.worst(0), 0, 0);
    }

    private static void worstNever() {
        Doc.term(7, "6 it does not come to that.");
        Still.refused("worst(0) in a flash", PaperBoundsTest::flashing, y -> y.worst(0), 6);
        RingedLights x = Check.of("phase 0 0;phase 0 1;");
        x.brakes(1, 0, 0, 1, 0, 0);
        x.ask(1);
        Check.refused("worst(1): an engine for good", x, x.worst(1), 6);
    }

    private static void worstWithin600() {
        Doc.term(6, "TICKS go by without comers, at most 600.");
        String phases = ";phase 0 0 split 10;phase 0 0 split 57;phase 1 0 split 12;";
        RingedLights x = Check.of("cycle 200;offset 86" + phases);
        Check.due("worst(1)", x, x.worst(1), 599, 0);
        x = Check.of("cycle 200;offset 89" + phases);
        x.call(1, false);
        int[] worst = {-1, -1, 600, 599};
        for (int due : worst) {
            Check.due("worst(1) behind the tick " + x.many(1), x, x.worst(1), due, due == -1 ? 6 : 0);
            x.call(0, false);
            x.call(2, false);
            x.tick(1);
        }
    }

    // ---- promise 30

    private static void clearedTheyAre() {
        Doc.promise(30, "In how many TICKS all QUEUES are 0 (0: they are) (6).");
        RingedLights x = Check.of("phase 0 0 rate 30;phase 0 1;");
        Check.due("cleared()", x, x.cleared(), 0, 0);
        x.come(0, 1);
        Check.due("cleared(): green in 1, gone in 2", x, x.cleared(), 2, 0);
        x.tick(1);
        Check.due("cleared()", x, x.cleared(), 1, 0);
        x.tick(1);
        Check.due("cleared()", x, x.cleared(), 0, 0);
        x.stick(0, true);
        x.stick(1, true);
        x.tick(1);
        Check.due("cleared() in a flash, without queues", x, x.cleared(), 0, 0);
        x = new RingedLights();
        Check.due("cleared() without phases", x, x.cleared(), 0, 0);
        Still.answered("cleared()", () -> Check.of(FOUR), RingedLights::cleared, 0);
    }

    private static void clearedNever() {
        Doc.term(7, "6 it does not come to that.");
        Still.refused("cleared() in a flash", PaperBoundsTest::flashing, RingedLights::cleared, 6);
        RingedLights x = Check.of("phase 0 0;phase 0 1;");
        x.come(1, 1);
        Check.due("cleared()", x, x.cleared(), 11, 0);
        x.brakes(0, 0, 0, 1, 0, 0);
        x.ask(0);
        Check.refused("cleared(): a train for good", x, x.cleared(), 6);
    }

    private static void clearedWithin600() {
        Doc.term(6, "TICKS go by without comers, at most 600.");
        RingedLights x = slow(86);
        x.come(3, 1);
        Check.refused("cleared(): the last is green in 600", x, x.cleared(), 6);
        StringBuilder text = new StringBuilder();
        for (int i = 0; i < 8; i++) {
            text.append("phase 0 0 pass 1 max 60 yellow 1 clear 0;");
        }
        x = Check.of(text.toString());
        // eight greens of 60, each 61 behind the one ahead; then 0 and 1 let go the last 39 of 99, and 2 the last 29
        int[] queues = {99, 99, 89, 60, 60, 60, 60, 60};
        for (int phase = 0; phase < 8; phase++) {
            x.come(phase, queues[phase]);
        }
        Check.due("cleared() in 600", x, x.cleared(), 600, 0);
        x.come(2, 1);
        Check.refused("cleared() in 601", x, x.cleared(), 6);
        x.tick(1);
        Check.due("cleared() behind a tick", x, x.cleared(), 600, 0);
    }

    // ---- promise 31

    private static void instepItIs() {
        Doc.promise(31, "In how many TICKS the CLOCK is DUE (0: it is)");
        RingedLights x = Check.of("cycle 20;");
        Check.due("instep()", x, x.instep(), 0, 0);
        x.tick(33);
        Check.due("instep()", x, x.instep(), 0, 0);
        x.clock(1, 1);
        Check.due("instep(): one back, with the tick 36", x, x.instep(), 3, 0);
        x.clock(1, 19);
        Check.due("instep(): one more, with the tick 36", x, x.instep(), 3, 0);
        x.clock(1, 2);
        Check.due("instep(): two back, with the tick 40", x, x.instep(), 7, 0);
        x.tick(7);
        Check.due("instep()", x, x.instep(), 0, 0);
        Still.answered("instep()", PaperBoundsTest::busy, RingedLights::instep, 27);
    }

    private static void instepWithoutCycle() {
        Doc.promise(31, "(5: no CYCLE; 6)");
        RingedLights x = new RingedLights();
        Check.refused("instep()", x, x.instep(), 5);
        x.clock(1, 9);
        Check.refused("instep() with an OFFSET alone", x, x.instep(), 5);
        x.clock(0, 20);
        Check.due("instep(): 11 by 9 the nearer way", x, x.instep(), 36, 0);
        x.clock(0, 0);
        Check.refused("instep()", x, x.instep(), 5);
        Still.refused("instep()", () -> Check.of(FOUR), RingedLights::instep, 5);
    }

    private static void instepByTheLongestWay() {
        Doc.term(4, "if AHEAD is half of CYCLE or less");
        RingedLights x = Check.of("cycle 240;offset 120;");
        Check.due("instep(): 120 steps", x, x.instep(), 480, 0);
        x = Check.of("cycle 240;offset 119;");
        Check.due("instep(): 119 steps back", x, x.instep(), 476, 0);
        x = flashing();
        Check.due("instep() in a flash: the clock goes on", x, x.instep(), 26, 0);
    }

    // ---- promise 33

    private static void paperOfHowMany() {
        Doc.promise(33, "How many will be LET GO in n TICKS (1 to 300)");
        RingedLights x = Check.of(FOUR);
        x.come(0, 99);
        Check.due("paper(1, 1)", x, x.paper(1, 1), 99, 0);
        Check.due("paper(2, 1)", x, x.paper(2, 1), 99 + 98, 0);
        Check.due("paper(300, 0)", x, x.paper(300, 0), 99, 0);
        x.tick(11);
        Check.due("sum(0)", x, x.sum(0), 10, 0);
        Check.due("paper(300, 0): without those let go ahead of it", x, x.paper(300, 0), 89, 0);
        Check.due("paper(1, 1): without what they waited", x, x.paper(1, 1), 88, 0);
        for (int n : new int[] {0, -1, 301, Integer.MIN_VALUE, Integer.MAX_VALUE}) {
            Check.refused("paper(" + n + ", 0)", x, x.paper(n, 0), 1);
            Check.refused("paper(" + n + ", 1)", x, x.paper(n, 1), 1);
        }
        x = new RingedLights();
        Check.due("paper(300, 0) without phases", x, x.paper(300, 0), 0, 0);
        Check.due("paper(300, 1) without phases", x, x.paper(300, 1), 0, 0);
        Still.refused("paper(301, 0)", PaperBoundsTest::busy, y -> y.paper(301, 0), 1);
    }

    private static void paperOfWhat() {
        Doc.promise(33, "(what 0), by how much WAITED will be more (1) (1).");
        RingedLights x = busy();
        for (int what : new int[] {-1, 2, Integer.MIN_VALUE, Integer.MAX_VALUE}) {
            Check.refused("paper(1, " + what + ")", x, x.paper(1, what), 1);
        }
        Still.answered("paper(1, 0)", PaperBoundsTest::busy, y -> y.paper(1, 0), 0);
        Still.answered("paper(1, 1)", PaperBoundsTest::busy, y -> y.paper(1, 1), 20);
        Still.answered("paper(9, 1) in a flash", PaperBoundsTest::flashing, y -> y.paper(9, 1), 180);
        Still.refused("paper(1, 2)", PaperBoundsTest::busy, y -> y.paper(1, 2), 1);
    }

    private static void paperWithoutComers() {
        Doc.term(6, "TICKS go by without comers");
        RingedLights x = Check.of("phase 0 0 rate 30;");
        Check.due("paper(300, 0)", x, x.paper(300, 0), 0, 0);
        Check.due("paper(300, 1)", x, x.paper(300, 1), 0, 0);
    }

    // ---- promise 34

    private static void bestMaxOfHowMany() {
        Doc.promise(34, "in n TICKS (1 to 100)");
        RingedLights x = busy();
        Check.due("bestMax(0, 1)", x, x.bestMax(0, 1), 1, 0);
        Check.due("bestMax(0, 100)", x, x.bestMax(0, 100), 1, 0);
        for (int n : new int[] {0, -1, 101, Integer.MIN_VALUE, Integer.MAX_VALUE}) {
            Check.refused("bestMax(0, " + n + ")", x, x.bestMax(0, n), 1);
            Check.refused("bestMax(4, " + n + "): 1 goes ahead of 2", x, x.bestMax(4, n), 1);
        }
        Still.refused("bestMax(0, 101)", PaperBoundsTest::busy, y -> y.bestMax(0, 101), 1);
    }

    private static void bestMaxOfNoPhase() {
        Doc.promise(34, "of several the least (1; 2).");
        RingedLights x = busy();
        for (int phase : NO_PHASE) {
            Check.refused("bestMax(" + phase + ", 1)", x, x.bestMax(phase, 1), 2);
        }
        Still.refused("bestMax(4, 100)", PaperBoundsTest::busy, y -> y.bestMax(4, 100), 2);
    }

    private static void bestMaxOfSeveral() {
        Doc.promise(34, "all else as it is; of several the least");
        RingedLights x = Check.of("phase 0 0 min 1;phase 0 1 min 1;");
        Check.due("bestMax(0, 100): all alike", x, x.bestMax(0, 100), 1, 0);
        x.come(0, 4);
        x.call(1, false);
        // a MAX of 4 and above lets go the four before it leaves
        Check.due("bestMax(0, 20)", x, x.bestMax(0, 20), 4, 0);
        Check.due("bestMax(0, 3): two are let go in time", x, x.bestMax(0, 3), 2, 0);
        Check.due("bestMax(1, 20)", x, x.bestMax(1, 20), 1, 0);
        // by a MAX from 1 on they wait 115, 105, 95, 85, 75, 80, and then always 85
        x = Check.of("phase 0 0 min 1;phase 0 1 min 1;");
        x.come(0, 5);
        x.come(1, 5);
        Check.due("bestMax(0, 30): the least in the midst", x, x.bestMax(0, 30), 5, 0);
        int[] waited = {115, 105, 95, 85, 75, 80, 85, 85};
        for (int max = 1; max <= 8; max++) {
            x.mark(0, 2, max);
            Check.due("paper(30, 1) by a MAX of " + max, x, x.paper(30, 1), waited[max - 1], 0);
        }
    }

    private static void bestMaxOfTheMost() {
        Doc.term(1, "2 MAX (1 to 60; 20 without)");
        RingedLights x = Check.of("phase 0 0 min 1 max 7;phase 0 1;");
        x.come(0, 99);
        x.call(1, false);
        Check.due("bestMax(0, 100): the more the better", x, x.bestMax(0, 100), 60, 0);
        Check.due("marked(0, 2)", x, x.marked(0, 2), 7, 0);
        x.come(1, 99);
        Check.due("bestMax(1, 5): not green in time", x, x.bestMax(1, 5), 1, 0);
        Still.answered("bestMax(1, 50)", () -> Check.of(FOUR), y -> y.bestMax(1, 50), 1);
    }

    // ---- promise 35

    private static void cheapestOfHowMany() {
        Doc.promise(35, "in n TICKS (1 to 100), of several the first");
        RingedLights x = Check.of(FOUR);
        Check.due("cheapest(1)", x, x.cheapest(1), 0, 0);
        Check.due("cheapest(100)", x, x.cheapest(100), 0, 0);
        for (int n : new int[] {0, -1, 101, Integer.MIN_VALUE, Integer.MAX_VALUE}) {
            Check.refused("cheapest(" + n + ")", x, x.cheapest(n), 1);
        }
        Still.refused("cheapest(0)", PaperBoundsTest::busy, y -> y.cheapest(0), 1);
        Still.refused("cheapest(101)", PaperBoundsTest::busy, y -> y.cheapest(101), 1);
    }

    private static void cheapestWithoutPhases() {
        Doc.promise(35, "(1; 5: no PHASES)");
        RingedLights x = new RingedLights();
        Check.refused("cheapest(1)", x, x.cheapest(1), 5);
        Check.refused("cheapest(100)", x, x.cheapest(100), 5);
        Check.refused("cheapest(101): 1 goes ahead of 5", x, x.cheapest(101), 1);
        Still.refused("cheapest(1)", RingedLights::new, y -> y.cheapest(1), 5);
    }

    private static void cheapestOfSeveral() {
        Doc.promise(35, "of several the first");
        RingedLights x = Check.of(FOUR);
        Check.due("cheapest(1): all wait", x, x.cheapest(1), 0, 0);
        Check.due("cheapest(30): 0 and 2 alike", x, x.cheapest(30), 0, 0);
        x.tick(1);
        x.come(0, 1);
        Check.due("cheapest(30): behind one at 0", x, x.cheapest(30), 2, 0);
        Still.answered("cheapest(30)", () -> Check.of(FOUR), y -> y.cheapest(30), 0);
    }

    private static void cheapestByTen() {
        Doc.promise(35, "were ten more in its QUEUE now");
        RingedLights x = Check.of("phase 0 0 max 9;phase 0 1;");
        x.come(0, 4);
        x.come(1, 1);
        x.tick(1);
        // ten at 0 wait 169 in all, at 1 they wait 171; of eleven it would be 196 and 192
        Check.due("cheapest(30)", x, x.cheapest(30), 0, 0);
        x.keep();
        x.come(0, 10);
        Check.due("paper(30, 1)", x, x.paper(30, 1), 169, 0);
        x.come(0, 1);
        Check.due("paper(30, 1)", x, x.paper(30, 1), 196, 0);
        x.back();
        x.come(1, 10);
        Check.due("paper(30, 1)", x, x.paper(30, 1), 171, 0);
        x.come(1, 1);
        Check.due("paper(30, 1)", x, x.paper(30, 1), 192, 0);
        x = Check.of("phase 0 0 max 1;phase 0 1;");
        x.come(0, 2);
        x.come(1, 2);
        x.tick(1);
        // ten at 0 wait 176 in all, at 1 they wait 175; of nine it would be 152 and 155
        Check.due("cheapest(30)", x, x.cheapest(30), 1, 0);
        x.keep();
        x.come(0, 9);
        Check.due("paper(30, 1)", x, x.paper(30, 1), 152, 0);
        x.back();
        x.come(1, 9);
        Check.due("paper(30, 1)", x, x.paper(30, 1), 155, 0);
    }

    private static void cheapestOfAFullQueue() {
        Doc.promise(35, "were ten more in its QUEUE now");
        RingedLights x = Check.of(FOUR);
        for (int phase = 0; phase < 4; phase++) {
            x.come(phase, 99);
        }
        Check.due("cheapest(1): ten more than 99, wherever", x, x.cheapest(1), 0, 0);
        Check.due("phase(0, 3)", x, x.phase(0, 3), 99, 0);
        x = Check.of("phase 0 0;phase 0 1;");
        x.come(1, 99);
        Check.due("cheapest(5): ten more than 99 wait as others do", x, x.cheapest(5), 0, 0);
    }

    private static void allStaysAsItIs() {
        Doc.term(6, "ON PAPER all stays as it is");
        Still.answered("when(2)", PaperBoundsTest::busy, y -> y.when(2), 10);
        Still.answered("worst(2)", PaperBoundsTest::busy, y -> y.worst(2), 10);
        Still.answered("paper(300, 0)", PaperBoundsTest::busy, y -> y.paper(300, 0), 20);
        RingedLights x = busy();
        int when = x.when(1);
        int cleared = x.cleared();
        int worst = x.worst(3);
        Check.due("they come to that", when > 0 && cleared > when && worst > 0, true);
        Still.answered("when(1)", PaperBoundsTest::busy, y -> y.when(1), when);
        Still.answered("cleared()", PaperBoundsTest::busy, RingedLights::cleared, cleared);
        Still.answered("worst(3)", PaperBoundsTest::busy, y -> y.worst(3), worst);
        Still.answered("bestMax(1, 100)", PaperBoundsTest::busy, y -> y.bestMax(1, 100), 1);
        Still.answered("cheapest(1)", PaperBoundsTest::busy, y -> y.cheapest(1), 0);
    }
}
