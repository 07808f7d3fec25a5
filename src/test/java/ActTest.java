/** Promises 9, 13 to 16, 20, 21 and 24 to 27: what is done, and who goes with whom. */
public final class ActTest {
    private static final String FOUR = "phase 0 0;phase 0 1;phase 1 0;phase 1 1;";
    private static final int[] WILD = {-1, 8, Integer.MIN_VALUE, Integer.MAX_VALUE};

    private ActTest() {
    }

    public static void main(String[] args) {
        mark();
        markWorksFromNowOn();
        clock();
        clockOfANewCycle();
        call();
        come();
        stick();
        reset();
        keepAndBack();
        backTakesAllBack();
        backToTheMidstOfABreak();
        backAcrossALoad();
        foes();
        sets();
        setsOfOneRing();
        Check.end();
    }

    private static void mark() {
        RingedLights x = Check.of(FOUR);
        int[] least = {1, 1, 1, 1, 0, 0, 0, 0, 0, 0};
        int[] most = {30, 9, 60, 5, 4, 20, 20, 3, 60, 30};
        int[] without = {5, 2, 20, 3, 1, 0, 0, 0, 0, 0};
        for (int mark = 0; mark < 10; mark++) {
            Check.due("mark(3, " + mark + ", least)", x, x.mark(3, mark, least[mark]), without[mark], 0);
            Check.due("mark(3, " + mark + ", most)", x, x.mark(3, mark, most[mark]), least[mark], 0);
            Check.due("mark(3, " + mark + ", most) again", x, x.mark(3, mark, most[mark]), most[mark], 0);
            Check.refused("mark(3, " + mark + ", above)", x, x.mark(3, mark, most[mark] + 1), 1);
            Check.refused("mark(3, " + mark + ", below)", x, x.mark(3, mark, least[mark] - 1), 1);
            Check.refused("mark(4, " + mark + ", below)", x, x.mark(4, mark, least[mark] - 1), 1);
            Check.refused("mark(4, " + mark + ", least)", x, x.mark(4, mark, least[mark]), 2);
            Check.refused("mark(-1, " + mark + ", least)", x, x.mark(-1, mark, least[mark]), 2);
            Check.due("marked(3, " + mark + ")", x, x.marked(3, mark), most[mark], 0);
            Check.due("marked(2, " + mark + ")", x, x.marked(2, mark), without[mark], 0);
        }
        Check.refused("mark(0, 10, 1)", x, x.mark(0, 10, 1), 1);
        Check.refused("mark(0, 10, 0)", x, x.mark(0, 10, 0), 1);
        Check.refused("mark(0, -1, 1)", x, x.mark(0, -1, 1), 1);
        Check.refused("mark(0, -1, 0)", x, x.mark(0, -1, 0), 1);
        Check.refused("mark(9, 10, 1)", x, x.mark(9, 10, 1), 1);
        Check.refused("mark(0, most int, 1)", x, x.mark(0, Integer.MAX_VALUE, 1), 1);
    }

    private static void markWorksFromNowOn() {
        RingedLights x = Check.of("phase 0 0;phase 0 1;");
        x.call(1, false);
        x.tick(6);
        Check.ring(x, 0, 0, 1, 0, 1);
        x.mark(0, 3, 1);
        x.mark(0, 4, 0);
        x.tick(1);
        Check.ring(x, 0, 1, 0, 0);
        x.mark(1, 0, 1);
        x.mark(1, 1, 1);
        x.mark(0, 7, 1);
        Check.due("phase(0, 4)", x.phase(0, 4), 1);
        x.tick(1);
        Check.ring(x, 0, 1, 1, 0, 0);
    }

    private static void clock() {
        RingedLights x = Check.of("cycle 40;offset 10;");
        Check.due("clock(1, 239)", x, x.clock(1, 239), 10, 0);
        Check.refused("clock(1, 239) again", x, x.clock(1, 239), 4);
        Check.refused("clock(1, 240)", x, x.clock(1, 240), 1);
        Check.refused("clock(1, -1)", x, x.clock(1, -1), 1);
        Check.due("clock(1, 0)", x, x.clock(1, 0), 239, 0);
        Check.refused("clock(0, 40)", x, x.clock(0, 40), 4);
        Check.refused("clock(0, 19)", x, x.clock(0, 19), 1);
        Check.refused("clock(0, 1)", x, x.clock(0, 1), 1);
        Check.refused("clock(0, -1)", x, x.clock(0, -1), 1);
        Check.refused("clock(0, 241)", x, x.clock(0, 241), 1);
        Check.refused("clock(2, 40)", x, x.clock(2, 40), 1);
        Check.refused("clock(-1, 40)", x, x.clock(-1, 40), 1);
        Check.due("clock(0, 240)", x, x.clock(0, 240), 40, 0);
        Check.due("clock(0, 20)", x, x.clock(0, 20), 240, 0);
        Check.due("clock(0, 0)", x, x.clock(0, 0), 20, 0);
        Check.refused("clock(0, 0) again", x, x.clock(0, 0), 4);
        Check.due("many(2)", x.many(2), 0);
        Check.due("many(3)", x.many(3), 0);
    }

    private static void clockOfANewCycle() {
        RingedLights x = Check.of("cycle 240;");
        x.tick(100);
        Check.due("many(4)", x.many(4), 100);
        Check.due("clock(1, 7)", x, x.clock(1, 7), 0, 0);
        Check.due("many(4) with a new OFFSET", x.many(4), 100);
        x.clock(1, 0);
        x.clock(0, 120);
        Check.due("many(4)", x.many(4), 100);
        x.clock(0, 30);
        Check.due("many(4)", x.many(4), 10);
        x.tick(1);
        Check.due("many(4)", x.many(4), 11);
        x.clock(0, 0);
        Check.due("many(4)", x.many(4), 0);
        x.tick(5);
        Check.due("many(4)", x.many(4), 0);
        x.clock(0, 60);
        Check.due("many(4)", x.many(4), 0);
        x.tick(1);
        Check.due("many(4)", x.many(4), 1);
    }

    private static void call() {
        RingedLights x = Check.of("phase 0 0 walk 5;phase 0 1;");
        for (int phase : WILD) {
            Check.due("call(" + phase + ", false)", x, x.call(phase, false), 2);
            Check.due("call(" + phase + ", true)", x, x.call(phase, true), 2);
        }
        Check.due("call(0, false)", x, x.call(0, false), 0);
        Check.due("phase(0, 4)", x.phase(0, 4), 1);
        Check.due("phase(0, 5)", x.phase(0, 5), 0);
        Check.due("call(0, false) again", x, x.call(0, false), 4);
        Check.due("call(0, true)", x, x.call(0, true), 0);
        Check.due("call(0, true) again", x, x.call(0, true), 4);
        Check.due("phase(0, 5)", x.phase(0, 5), 1);
        Check.due("call(1, true)", x, x.call(1, true), 5);
        Check.due("call(1, false)", x, x.call(1, false), 0);
        x.mark(0, 5, 0);
        Check.due("call(0, true): it waits, though without WALK", x, x.call(0, true), 4);
        x.stick(0, true);
        x.stick(1, true);
        x.tick(1);
        Check.due("call(1, false) in a flash: it waits", x, x.call(1, false), 4);
        Check.due("call(1, true) in a flash", x, x.call(1, true), 5);
        Check.due("call(0, false) in a flash", x, x.call(0, false), 8);
        Check.due("call(2, false) in a flash", x, x.call(2, false), 2);
        x.mark(0, 5, 1);
        Check.due("call(0, true) in a flash", x, x.call(0, true), 8);
        Check.due("phase(0, 5)", x.phase(0, 5), 0);
        // a queue or a recall is no call that waits
        x = Check.of("phase 0 0;phase 0 1 recall 1;");
        x.come(1, 3);
        Check.due("call(1, false)", x, x.call(1, false), 0);
    }

    private static void come() {
        RingedLights x = Check.of("phase 0 0;phase 0 1;");
        for (int phase : WILD) {
            Check.refused("come(" + phase + ", 1)", x, x.come(phase, 1), 2);
            Check.refused("come(" + phase + ", 0)", x, x.come(phase, 0), 1);
        }
        Check.refused("come(0, 0)", x, x.come(0, 0), 1);
        Check.refused("come(0, -1)", x, x.come(0, -1), 1);
        Check.refused("come(0, 100)", x, x.come(0, 100), 1);
        Check.refused("come(0, most int)", x, x.come(0, Integer.MAX_VALUE), 1);
        Check.due("come(0, 99)", x, x.come(0, 99), 99, 0);
        Check.refused("come(0, 1)", x, x.come(0, 1), 3);
        Check.due("come(1, 1)", x, x.come(1, 1), 1, 0);
        Check.refused("come(1, 99)", x, x.come(1, 99), 3);
        Check.due("come(1, 98)", x, x.come(1, 98), 99, 0);
        Check.due("phase(1, 4)", x.phase(1, 4), 1);
        Check.due("sum(2)", x.sum(2), 198);
        x.stick(0, true);
        x.stick(1, true);
        x.tick(2);
        Check.due("sum(2)", x.sum(2), 198);
        Check.due("phase(0, 3)", x.phase(0, 3), 99);
        Check.due("phase(0, 6)", x.phase(0, 6), 0);
    }

    private static void stick() {
        RingedLights x = Check.of(FOUR);
        for (int phase : WILD) {
            Check.due("stick(" + phase + ", true)", x, x.stick(phase, true), 2);
            Check.due("stick(" + phase + ", false)", x, x.stick(phase, false), 2);
        }
        Check.due("stick(3, false)", x, x.stick(3, false), 4);
        Check.due("stick(3, true)", x, x.stick(3, true), 0);
        Check.due("stick(3, true) again", x, x.stick(3, true), 4);
        Check.due("stick(1, true)", x, x.stick(1, true), 0);
        Check.due("many(6)", x, x.many(6), 10, 0);
        Check.due("phase(3, 2)", x.phase(3, 2), 2);
        Check.due("phase(2, 2)", x.phase(2, 2), 0);
        Check.due("stick(3, false)", x, x.stick(3, false), 0);
        Check.due("many(6)", x.many(6), 2);
        Check.due("phase(3, 2)", x.phase(3, 2), 0);
        // a yellow lamp that sticks is shown green
        x.call(3, false);
        x.stick(1, false);
        x.tick(6);
        Check.due("phase(0, 2)", x.phase(0, 2), 1);
        x.stick(0, true);
        Check.due("phase(0, 2)", x.phase(0, 2), 2);
        Check.ring(x, 0, 0, 1);
    }

    private static void reset() {
        RingedLights x = Check.of(FOUR);
        Check.due("reset()", x, x.reset(), 5);
        x.tick(1);
        Check.due("reset()", x, x.reset(), 5);
        Check.ring(x, 0, 0, 0);
        x.come(3, 4);
        x.call(1, false);
        x.stick(1, true);
        x.tick(4);
        Check.due("reset()", x, x.reset(), 0);
        Check.due("many(5)", x.many(5), 0);
        Check.due("many(6): it sticks still", x.many(6), 2);
        Check.due("phase(1, 4): the call waits still", x.phase(1, 4), 1);
        Check.due("phase(3, 3)", x.phase(3, 3), 4);
        Check.ring(x, 0, -1, 3, 0, 0);
        Check.ring(x, 1, -1, 3, 0, 2);
        Check.event(x, 0, 5, 5, -1);
        Check.due("reset()", x, x.reset(), 5);
    }

    private static void keepAndBack() {
        RingedLights x = Check.of(FOUR);
        Check.refused("back()", x, x.back(), 5);
        for (int i = 1; i <= 3; i++) {
            x.come(0, 1);
            Check.due("keep()", x, x.keep(), i, 0);
            Check.due("many(11)", x.many(11), i);
        }
        x.come(0, 1);
        Check.refused("keep()", x, x.keep(), 3);
        Check.due("phase(0, 3)", x.phase(0, 3), 4);
        for (int i = 2; i >= 1; i--) {
            Check.due("back()", x, x.back(), i, 0);
            Check.due("phase(0, 3)", x.phase(0, 3), i + 1);
        }
        x.come(0, 20);
        Check.due("keep()", x, x.keep(), 2, 0);
        x.come(0, 20);
        Check.due("back()", x, x.back(), 1, 0);
        Check.due("phase(0, 3)", x.phase(0, 3), 22);
        Check.due("back()", x, x.back(), 0, 0);
        Check.due("phase(0, 3)", x.phase(0, 3), 1);
        Check.refused("back()", x, x.back(), 5);
        Check.due("many(11)", x.many(11), 0);
    }

    private static RingedLights busy() {
        RingedLights x = Check.of("phase 0 0 walk 3 halt 3 rate 9;phase 0 1 split 4 walk 1;phase 1 0 min 2;cycle 30;offset 4;"
                + "break 0 track 1 2 dwell 5 3 cut 4;");
        x.come(0, 3);
        x.call(0, true);
        x.call(1, false);
        x.run(4, 17);
        x.call(0, true);
        x.call(1, true);
        x.ask(1);
        x.tick(1);
        return x;
    }

    private static void backTakesAllBack() {
        RingedLights x = busy();
        x.keep();
        x.let(1);
        x.ask(0);
        x.call(2, false);
        x.call(0, false);
        x.run(40, 4);
        x.mark(0, 1, 9);
        x.clock(0, 50);
        x.clock(1, 9);
        x.brakes(1, 1, 1, 1, 1, 1);
        x.stick(1, true);
        x.stick(0, true);
        x.tick(3);
        Check.due("many(5)", x.many(5), 1);
        x.back();
        Check.due("all is as it was", Whole.of(x).equals(Whole.of(busy())), true);
    }

    /** Green rings with a gap, halting walkers, a break under way, and far more events than are kept. */
    private static RingedLights inABreak() {
        RingedLights x = Check.of("phase 0 0 walk 2 halt 9 recall 1 yellow 1 clear 0;phase 0 1 recall 1 yellow 1 clear 0;"
                + "phase 1 0;break 1 track 1 9 dwell 2 9 cut 0;");
        x.call(0, true);
        x.ask(1);
        x.tick(6);
        return x;
    }

    private static void backToTheMidstOfABreak() {
        RingedLights x = inABreak();
        Check.due("many(9)", x.many(9), 5);
        Check.due("ring(0, 7)", x.ring(0, 7), 3);
        Check.due("ring(0, 4)", x.ring(0, 4), 5);
        x.keep();
        x.tick(12);
        x.let(1);
        x.tick(300);
        Check.due("events beyond those kept", x.event(31, 1) > 100, true);
        x.back();
        Check.due("all is as it was", Whole.of(x).equals(Whole.of(inABreak())), true);
        x.tick(1);
        Check.due("many(9)", x.many(9), 6);
        Check.due("ring(0, 7)", x.ring(0, 7), 4);
        Check.due("ring(0, 4)", x.ring(0, 4), 6);
    }

    private static RingedLights aheadOfALoad() {
        RingedLights x = Check.of("phase 0 0 min 7;phase 0 1;");
        x.come(1, 5);
        x.tick(9);
        return x;
    }

    private static void backAcrossALoad() {
        RingedLights x = aheadOfALoad();
        x.keep();
        Check.due("load", x, Check.loadInto(x, "phase 1 1;"), 1, 0);
        Check.due("many(11): MARKS of all stay", x.many(11), 1);
        x.keep();
        x.tick(2);
        Check.due("back()", x, x.back(), 1, 0);
        Check.due("many(0)", x.many(0), 1);
        Check.due("many(1)", x.many(1), 0);
        Check.due("back()", x, x.back(), 0, 0);
        Check.due("all is as it was", Whole.of(x).equals(Whole.of(aheadOfALoad())), true);
    }

    private static void foes() {
        RingedLights x = Check.of(FOUR + "phase 0 0;");
        int[] sets = {26, 21, 10, 21, 11};
        for (int phase = 0; phase < 5; phase++) {
            for (int other = 0; other < 5; other++) {
                boolean alike = phase % 4 / 2 == other % 4 / 2;
                boolean unlikeSides = (phase == 1 || phase == 3) != (other == 1 || other == 3);
                boolean foes = phase != other && (alike || unlikeSides);
                Check.due("foes(" + phase + ", " + other + ")", x, x.foes(phase, other), foes ? 1 : 0, 0);
            }
        }
        Check.due("phase(0, 8)", x.phase(0, 8), 26);
        Check.due("phase(1, 8)", x.phase(1, 8), 21);
        Check.due("phase(2, 8)", x.phase(2, 8), 10);
        Check.due("phase(3, 8)", x.phase(3, 8), sets[1]);
        Check.due("phase(4, 8)", x.phase(4, 8), sets[4]);
        for (int phase : WILD) {
            Check.refused("foes(0, " + phase + ")", x, x.foes(0, phase), 2);
            Check.refused("foes(" + phase + ", 0)", x, x.foes(phase, 0), 2);
        }
        Check.refused("foes(5, 5)", x, x.foes(5, 5), 2);
    }

    private static void sets() {
        RingedLights x = Check.of("phase 0 0;phase 0 0;phase 1 0;phase 1 0;phase 0 1;phase 1 1;");
        Check.due("sets(0)", x, x.sets(0), 5, 0);
        Check.due("sets(1)", x, x.sets(1), 5, 0);
        x.come(3, 2);
        Check.due("sets(1)", x, x.sets(1), 9, 0);
        x.come(4, 1);
        x.come(5, 1);
        Check.due("sets(1)", x, x.sets(1), 9, 0);
        x.come(5, 1);
        Check.due("sets(1)", x, x.sets(1), 48, 0);
        x.come(1, 1);
        Check.due("sets(1)", x, x.sets(1), 10, 0);
        Check.due("sets(0)", x, x.sets(0), 5, 0);
        for (int what : new int[] {-1, 2, Integer.MIN_VALUE, Integer.MAX_VALUE}) {
            Check.refused("sets(" + what + ")", x, x.sets(what), 1);
        }
        x = new RingedLights();
        Check.due("sets(0) without phases", x, x.sets(0), 0, 0);
        Check.due("sets(1) without phases", x, x.sets(1), 0, 0);
        Check.refused("sets(2) without phases", x, x.sets(2), 1);
    }

    private static void setsOfOneRing() {
        RingedLights two = Check.of("phase 0 0;phase 1 0;");
        Check.due("sets(0): one of all", two, two.sets(0), 1, 0);
        Check.due("sets(1): one of all", two, two.sets(1), 3, 0);
        RingedLights one = Check.of("phase 0 0;");
        Check.due("sets(0) of one phase", one, one.sets(0), 1, 0);
        Check.due("sets(1) of one phase", one, one.sets(1), 1, 0);
        RingedLights x = Check.of("phase 0 0;phase 1 0;phase 0 1;");
        Check.due("sets(0)", x, x.sets(0), 2, 0);
        Check.due("sets(1)", x, x.sets(1), 3, 0);
        x.come(2, 1);
        Check.due("sets(1)", x, x.sets(1), 4, 0);
        StringBuilder eight = new StringBuilder();
        for (int i = 0; i < 8; i++) {
            eight.append("phase ").append(i / 4).append(" 1;");
        }
        x = Check.of(eight.toString());
        Check.due("sets(0)", x, x.sets(0), 16, 0);
        x.come(7, 1);
        Check.due("sets(1)", x, x.sets(1), 129, 0);
    }
}
