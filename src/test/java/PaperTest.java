/** Promises 28 to 31 and 33 to 35: what is told on paper. Promise 32 is in BreakTest. */
public final class PaperTest {
    private static final int[] WILD = {-1, 8, Integer.MIN_VALUE, Integer.MAX_VALUE};
    private static final String[] CROSSINGS = {
        "phase 0 0;phase 0 1;",
        "phase 0 0 min 2 walk 3 halt 2;phase 0 1 max 9;phase 1 0 max 7 pass 1;phase 1 1 recall 1;",
        "phase 0 0 max 6;phase 0 0 clear 0;phase 0 1 yellow 1;phase 1 0 recall 2 max 15;phase 1 1;phase 1 1;",
        "cycle 60;offset 7;phase 0 0 split 20;phase 0 1 split 30;phase 1 0 split 25;phase 1 1 split 25;",
        "phase 0 0 recall 3 walk 4 halt 4;phase 0 1 max 5;phase 0 1 max 30 rate 20;break 0 track 1 3 dwell 2 5 cut 1;",
    };

    private PaperTest() {
    }

    public static void main(String[] args) {
        when();
        whenIsAsTicksTell();
        worst();
        worstIsAsCallsTell();
        cleared();
        instep();
        paper();
        paperIsAsTicksTell();
        bestMax();
        cheapest();
        bestMaxAndCheapestAreAsPaperTells();
        cheapestOfAFullQueue();
        allStaysAsItIs();
        Check.end();
    }

    private static RingedLights busy(String text) {
        RingedLights x = Check.of(text);
        for (int phase = 0; phase < x.many(0); phase++) {
            x.come(phase, 3 + phase * 5 % 7);
        }
        x.tick(3);
        return x;
    }

    private static void when() {
        RingedLights x = Check.of("phase 0 0;phase 0 1;phase 1 0;");
        for (int phase : WILD) {
            Check.refused("when(" + phase + ")", x, x.when(phase), 2);
        }
        Check.refused("when(3)", x, x.when(3), 2);
        Check.due("when(0)", x, x.when(0), 1, 0);
        Check.refused("when(1): not called", x, x.when(1), 6);
        x.call(1, false);
        Check.due("when(1)", x, x.when(1), 10, 0);
        x.tick(1);
        Check.due("when(0)", x, x.when(0), 0, 0);
        Check.due("when(2)", x, x.when(2), 0, 0);
        Check.due("when(1)", x, x.when(1), 9, 0);
        x.tick(5);
        Check.ring(x, 0, 0, 1, 0, 1);
        Check.refused("when(0): a yellow one", x, x.when(0), 6);
        x.call(0, false);
        Check.due("when(0)", x, x.when(0), 13, 0);
        x.stick(1, true);
        x.tick(1);
        Check.refused("when(0) in a flash", x, x.when(0), 6);
        Check.refused("when(1): its lamp sticks, it is not green", x, x.when(1), 6);
    }

    private static void whenIsAsTicksTell() {
        for (String text : CROSSINGS) {
            for (int phase = 0; phase < Check.of(text).many(0); phase++) {
                RingedLights x = busy(text);
                int when = x.when(phase);
                int status = x.status();
                int ticks = 0;
                while (ticks < 600 && !isGreen(x, phase)) {
                    x.tick(1);
                    ticks++;
                }
                Check.due(text + " when(" + phase + ")", when, isGreen(x, phase) ? ticks : -1);
                Check.due("its status", status, when == -1 ? 6 : 0);
            }
        }
    }

    private static boolean isGreen(RingedLights x, int phase) {
        return x.phase(phase, 2) == 2;
    }

    private static void worst() {
        RingedLights x = Check.of("phase 0 0 max 8;phase 0 1 max 30;phase 0 1;");
        for (int phase : WILD) {
            Check.refused("worst(" + phase + ")", x, x.worst(phase), 2);
        }
        Check.refused("worst(3)", x, x.worst(3), 2);
        Check.due("worst(0)", x, x.worst(0), 1, 0);
        // green in 1, called each tick and pressed for 8, yellow 3, clear 1
        Check.due("worst(1)", x, x.worst(1), 13, 0);
        // and once more behind 1 with its 30
        Check.due("worst(2)", x, x.worst(2), 47, 0);
        Check.due("phase(1, 4)", x.phase(1, 4), 0);
        x.tick(1);
        Check.due("worst(0)", x, x.worst(0), 0, 0);
        Check.due("worst(1)", x, x.worst(1), 12, 0);
        x.stick(2, true);
        x.tick(1);
        Check.refused("worst(0) in a flash", x, x.worst(0), 6);
        x = Check.of("phase 0 0;");
        x.stick(0, true);
        Check.due("worst(0)", x, x.worst(0), 1, 0);
    }

    private static void worstIsAsCallsTell() {
        for (String text : CROSSINGS) {
            int phases = Check.of(text).many(0);
            for (int phase = 0; phase < phases; phase++) {
                RingedLights x = busy(text);
                int worst = x.worst(phase);
                x.call(phase, false);
                int ticks = 0;
                while (ticks < 66 && !isGreen(x, phase)) {
                    for (int other = 0; other < phases; other++) {
                        if (other != phase) {
                            x.call(other, false);
                        }
                    }
                    x.tick(1);
                    ticks++;
                }
                Check.due(text + " worst(" + phase + ")", worst, isGreen(x, phase) ? ticks : -1);
            }
        }
    }

    private static void cleared() {
        RingedLights x = Check.of("phase 0 0;phase 0 1;");
        Check.due("cleared()", x, x.cleared(), 0, 0);
        x.come(0, 4);
        Check.due("cleared()", x, x.cleared(), 5, 0);
        x.come(1, 2);
        // 0 goes with a GAP of 2 at an AGE of 6: yellow in 7, 1 green in 11, the last in 13
        Check.due("cleared()", x, x.cleared(), 13, 0);
        Check.due("sum(2)", x.sum(2), 6);
        x.stick(0, true);
        x.stick(1, true);
        x.tick(1);
        Check.refused("cleared() in a flash", x, x.cleared(), 6);
    }

    private static void instep() {
        RingedLights x = Check.of("phase 0 0;");
        Check.refused("instep()", x, x.instep(), 5);
        x = Check.of("cycle 40;offset 10;");
        Check.due("instep()", x, x.instep(), 40, 0);
        x.tick(39);
        Check.due("instep()", x, x.instep(), 1, 0);
        x.tick(1);
        Check.due("instep()", x, x.instep(), 0, 0);
        x.tick(33);
        Check.due("instep()", x, x.instep(), 0, 0);
        // AHEAD is 2 now: at tick 76 and at tick 80
        x.clock(1, 8);
        Check.due("instep()", x, x.instep(), 7, 0);
        x.clock(1, 11);
        Check.due("instep()", x, x.instep(), 3, 0);
        x = Check.of("cycle 240;offset 120;");
        Check.due("instep(): 120 steps", x, x.instep(), 480, 0);
    }

    private static void paper() {
        RingedLights x = Check.of("phase 0 0;phase 0 1;");
        for (int n : new int[] {0, -1, 301, Integer.MAX_VALUE, Integer.MIN_VALUE}) {
            Check.refused("paper(" + n + ", 0)", x, x.paper(n, 0), 1);
        }
        for (int what : new int[] {-1, 2, Integer.MAX_VALUE}) {
            Check.refused("paper(1, " + what + ")", x, x.paper(1, what), 1);
        }
        x.come(0, 3);
        x.come(1, 1);
        x.mark(0, 9, 30);
        Check.due("paper(1, 0)", x, x.paper(1, 0), 0, 0);
        Check.due("paper(1, 1)", x, x.paper(1, 1), 4, 0);
        Check.due("paper(2, 0)", x, x.paper(2, 0), 1, 0);
        Check.due("paper(2, 1)", x, x.paper(2, 1), 7, 0);
        Check.due("paper(4, 0)", x, x.paper(4, 0), 3, 0);
        Check.due("paper(4, 1)", x, x.paper(4, 1), 10, 0);
        Check.due("paper(300, 0): without comers", x, x.paper(300, 0), 4, 0);
        x.tick(2);
        Check.due("paper(2, 0)", x, x.paper(2, 0), 2, 0);
        Check.due("paper(2, 1)", x, x.paper(2, 1), 3, 0);
    }

    private static void paperIsAsTicksTell() {
        for (String text : CROSSINGS) {
            for (int n : new int[] {1, 7, 33, 100, 300}) {
                RingedLights x = busy(text);
                int letGo = x.paper(n, 0);
                int waited = x.paper(n, 1);
                int letGoAhead = x.sum(0);
                int waitedAhead = x.sum(1);
                x.tick(n);
                Check.due(text + " paper(" + n + ", 0)", letGo, x.sum(0) - letGoAhead);
                Check.due(text + " paper(" + n + ", 1)", waited, x.sum(1) - waitedAhead);
            }
        }
    }

    private static void bestMax() {
        RingedLights x = Check.of("phase 0 0 min 1;phase 0 1 min 1 yellow 1 clear 0;");
        for (int n : new int[] {0, -1, 101, Integer.MAX_VALUE, Integer.MIN_VALUE}) {
            Check.refused("bestMax(0, " + n + ")", x, x.bestMax(0, n), 1);
            Check.refused("bestMax(7, " + n + ")", x, x.bestMax(7, n), 1);
            Check.refused("cheapest(" + n + ")", x, x.cheapest(n), 1);
        }
        for (int phase : WILD) {
            Check.refused("bestMax(" + phase + ", 1)", x, x.bestMax(phase, 1), 2);
        }
        Check.refused("bestMax(2, 100)", x, x.bestMax(2, 100), 2);
        Check.due("bestMax(0, 100): all alike", x, x.bestMax(0, 100), 1, 0);
        // with nobody at 1 but a call there, each who is let go at 0 is let go sooner by a MAX of 9 and above
        x.come(0, 9);
        x.call(1, false);
        Check.due("bestMax(0, 11)", x, x.bestMax(0, 11), 9, 0);
        Check.due("bestMax(0, 5)", x, x.bestMax(0, 5), 4, 0);
        Check.due("bestMax(1, 11)", x, x.bestMax(1, 11), 1, 0);
        Check.due("marked(0, 2)", x.marked(0, 2), 20);
        x.come(0, 90);
        Check.due("bestMax(0, 61)", x, x.bestMax(0, 61), 60, 0);
        Check.due("bestMax(0, 100)", x, x.bestMax(0, 100), 60, 0);
        Check.due("bestMax(0, 1)", x, x.bestMax(0, 1), 1, 0);
    }

    private static void cheapest() {
        RingedLights x = new RingedLights();
        Check.refused("cheapest(1)", x, x.cheapest(1), 5);
        Check.refused("cheapest(0)", x, x.cheapest(0), 1);
        x = Check.of("phase 0 0;phase 0 1;phase 1 0;");
        Check.due("cheapest(1): all alike", x, x.cheapest(1), 0, 0);
        x.tick(1);
        Check.due("cheapest(5)", x, x.cheapest(5), 0, 0);
        x.come(0, 20);
        // at 0 ten more wait behind twenty, at 2 ten go at once
        Check.due("cheapest(20)", x, x.cheapest(20), 2, 0);
        Check.due("sum(2)", x.sum(2), 20);
        Check.due("cheapest(100)", x, x.cheapest(100), 2, 0);
    }

    private static void bestMaxAndCheapestAreAsPaperTells() {
        for (String text : CROSSINGS) {
            RingedLights x = busy(text);
            int phases = x.many(0);
            for (int n : new int[] {20, 100}) {
                int cheapest = x.cheapest(n);
                Check.due(text + " cheapest(" + n + ")", cheapest, cheapestByPaper(busy(text), n));
            }
            for (int phase = 0; phase < phases; phase++) {
                Check.due(text + " bestMax(" + phase + ", 60)", x.bestMax(phase, 60), bestMaxByPaper(busy(text), phase, 60));
            }
        }
    }

    private static int bestMaxByPaper(RingedLights x, int phase, int n) {
        int best = 0;
        int least = Integer.MAX_VALUE;
        for (int max = 1; max <= 60; max++) {
            x.mark(phase, 2, max);
            int more = x.paper(n, 1);
            if (more < least) {
                least = more;
                best = max;
            }
        }
        return best;
    }

    private static int cheapestByPaper(RingedLights x, int n) {
        int best = 0;
        int least = Integer.MAX_VALUE;
        for (int phase = 0; phase < x.many(0); phase++) {
            x.keep();
            x.come(phase, 10);
            int more = x.paper(n, 1);
            x.back();
            if (more < least) {
                least = more;
                best = phase;
            }
        }
        return best;
    }

    /** Ten more are ten more on paper, above 99 too: so a full queue is no cheaper than another one that waits. */
    private static void cheapestOfAFullQueue() {
        RingedLights x = Check.of("phase 0 0;phase 0 0 min 30;phase 0 1;");
        x.call(1, false);
        x.tick(10);
        Check.ring(x, 0, 1, 0);
        x.come(2, 99);
        Check.due("cheapest(3)", x, x.cheapest(3), 1, 0);
        x.come(1, 99);
        Check.due("cheapest(3)", x, x.cheapest(3), 0, 0);
        Check.due("phase(2, 3)", x.phase(2, 3), 99);
    }

    private static RingedLights busyAndCalled() {
        RingedLights x = busy(CROSSINGS[3]);
        x.call(0, false);
        return x;
    }

    private static void allStaysAsItIs() {
        RingedLights x = busyAndCalled();
        x.when(1);
        x.worst(1);
        x.cleared();
        x.instep();
        x.broken(0);
        x.broken(1);
        x.paper(300, 0);
        x.bestMax(1, 50);
        x.cheapest(50);
        Check.due("all is as it was behind what is on paper", Whole.of(x).equals(Whole.of(busyAndCalled())), true);
        x.tick(1);
        Check.ring(x, 0, 0, 0, 3, -1, 0);
    }
}
