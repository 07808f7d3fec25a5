/** Promises 1 to 5: a new object, its status, the tape, the text of a crossing and its faults. */
public final class TextTest {
    private static final String EIGHT = "phase 0 0;phase 0 0;phase 0 0;phase 0 0;phase 0 0;phase 0 0;phase 0 0;phase 0 0;";

    private TextTest() {
    }

    public static void main(String[] args) {
        newObject();
        statusIsThatOfTheLatestCallThatHasOne();
        tape();
        tapeIsFullAt700();
        loadLooksAtItsNumber();
        loadTakesTheFirstBytes();
        loadBeginsAnew();
        loadDuringABreak();
        loadWithAFaultKeepsTheOldCrossing();
        blanksAndTokens();
        marksTold();
        marksWithout();
        breaksTold();
        faultOfTheLatestLoad();
        noToken();
        misplaced();
        unknownPhase();
        badNumber();
        badMark();
        toldTwice();
        ninthPhase();
        firstFaultCounts();
        Check.end();
    }

    private static void newObject() {
        RingedLights x = new RingedLights();
        Check.due("status() of a new object", x.status(), 0);
        int[] many = {0, 0, 0, 0, 0, 0, 0, -1, 0, 0, 0, 0};
        for (int what = 0; what < many.length; what++) {
            Check.due("many(" + what + ") of a new object", x, x.many(what), many[what], 0);
        }
        Check.ring(x, 0, -1, 3, 0, -1, 0, 0, 0, 0, 0, 0);
        Check.ring(x, 1, -1, 3, 0, -1, 0, 0, 0, 0, 0, 0);
        for (int what = 0; what < 6; what++) {
            Check.due("brake(1, " + what + ")", x, x.brake(1, what), 0, 0);
            Check.due("sum(" + what + ")", x, x.sum(what), what == 4 ? -1 : 0, 0);
        }
        Check.refused("load(1)", x, x.load(1), 1);
        Check.due("tick(300)", x, x.tick(300), 300, 0);
        Check.due("cleared()", x, x.cleared(), 0, 0);
        Check.due("broken(1)", x, x.broken(1), 1, 0);
        Check.due("paper(9, 1)", x, x.paper(9, 1), 0, 0);
        Check.due("run(300, 0)", x, x.run(300, 0), 0, 0);
        Check.due("NONE", RingedLights.NONE, -1);
    }

    private static void statusIsThatOfTheLatestCallThatHasOne() {
        RingedLights x = new RingedLights();
        Check.refused("many(12)", x, x.many(12), 1);
        x.feed(0, 0, 0, 0, 0);
        Check.due("status() behind feed()", x.status(), 1);
        x.fault(0);
        Check.due("status() behind fault()", x.status(), 1);
        x.status();
        Check.due("status() behind status()", x.status(), 1);
        Check.due("many(7)", x, x.many(7), -1, 0);
        Check.due("ask(3)", x, x.ask(3), 2);
        for (int i = 0; i < 40; i++) {
            x.feed(0, 0, 0, 0, 0);
        }
        Check.due("status() behind a feed() too many", x.status(), 2);
    }

    private static void tape() {
        RingedLights x = new RingedLights();
        // "offset 9;" and blanks: the highest byte of each int comes first
        Check.due("feed", x.feed(0x6f666673, 0x65742039, 0x3b202020, 0x20202020, 0x20202020), 20);
        Check.due("feed", x.feed(0x20202020, 0x20202020, 0x20202020, 0x20202020, 0x6379636c), 40);
        Check.due("feed", x.feed(0x65203939, 0x3b0a0a0a, 0xffffffff, 0x80000000, 0), 60);
        Check.due("load", x, x.load(48), 0, 0);
        Check.due("many(3)", x.many(3), 9);
        Check.due("many(2)", x.many(2), 99);
        Check.due("feed on an empty tape", x.feed(0, 0, 0, 0, 0), 20);
    }

    private static void tapeIsFullAt700() {
        RingedLights x = new RingedLights();
        for (int i = 1; i <= 35; i++) {
            Check.due("feed " + i, x.feed(0x20202020, 0x0a0a0a0a, 0x20202020, 0x20202020, 0x20202020), 20 * i);
        }
        Check.due("feed 36", x.feed(0, 0, 0, 0, 0), -1);
        Check.refused("load(701)", x, x.load(701), 1);
        Check.due("load(700)", x, x.load(700), 0, 0);
        Check.due("feed behind it", x.feed(0, 0, 0, 0, 0), 20);
    }

    private static void loadLooksAtItsNumber() {
        RingedLights x = new RingedLights();
        Check.feedText(x, "phase 0 0;phase 0 0;");
        Check.refused("load(21)", x, x.load(21), 1);
        Check.refused("load(-1)", x, x.load(-1), 1);
        Check.refused("load(least int)", x, x.load(Integer.MIN_VALUE), 1);
        Check.refused("load(most int)", x, x.load(Integer.MAX_VALUE), 1);
        Check.due("fault(0) behind these", x.fault(0), -1);
        Check.due("load(20): the tape has stayed", x, x.load(20), 2, 0);
        Check.refused("load(20): it is empty now", x, x.load(20), 1);
        Check.due("load(0)", x, x.load(0), 0, 0);
        Check.due("many(0)", x.many(0), 0);
    }

    private static void loadTakesTheFirstBytes() {
        RingedLights x = new RingedLights();
        Check.feedText(x, "phase 0 0;phase 0 0;");
        Check.due("load(10)", x, x.load(10), 1, 0);
        Check.refused("load(10): all of the tape is gone", x, x.load(10), 1);
    }

    private static void loadBeginsAnew() {
        RingedLights x = Check.of("phase 0 0;phase 0 1;cycle 40;offset 3;break 1 track 1 2 dwell 2 3 cut 4;");
        x.keep();
        x.mark(0, 6, 3);
        x.mark(0, 5, 3);
        x.call(0, true);
        x.come(0, 2);
        x.call(1, false);
        x.come(1, 9);
        x.tick(7);
        Check.due("sum(0)", x.sum(0), 2);
        x.ask(1);
        x.tick(3);
        x.call(0, false);
        x.call(0, true);
        x.stick(0, true);
        x.stick(1, true);
        x.tick(30);
        Check.due("many(5)", x.many(5), 1);
        Check.loadInto(x, "phase 1 1 walk 4;phase 0 1 walk 4;");
        int[] many = {2, 0, 0, 0, 0, 0, 0, -1, 0, 0, 0, 1};
        for (int what = 0; what < many.length; what++) {
            Check.due("many(" + what + ") of the new crossing", x, x.many(what), many[what], 0);
        }
        for (int what = 0; what < 6; what++) {
            Check.due("brake(1, " + what + ")", x.brake(1, what), 0);
            Check.due("sum(" + what + ")", x.sum(what), what == 4 ? -1 : 0);
        }
        for (int phase = 0; phase < 2; phase++) {
            for (int what = 2; what < 7; what++) {
                Check.due("phase(" + phase + ", " + what + ")", x.phase(phase, what), 0);
            }
        }
        Check.due("marked(0, 6)", x.marked(0, 6), 0);
        Check.refused("event(0, 0)", x, x.event(0, 0), 5);
        Check.ring(x, 0, -1, 3, 0, 1);
        Check.ring(x, 1, -1, 3, 0, 0);
    }

    private static void loadDuringABreak() {
        RingedLights x = Check.of("phase 0 0;phase 0 1;phase 1 0;phase 1 1;break 0 track 1 5 dwell 2 5 cut 0;");
        x.ask(0);
        x.tick(3);
        Check.due("many(9)", x.many(9), 2);
        Check.loadInto(x, "phase 1 1 max 7;phase 0 1;phase 1 1;");
        Check.due("many(7)", x.many(7), -1);
        Check.due("many(8)", x.many(8), 0);
        Check.due("many(9)", x.many(9), 0);
        Check.due("brake(0, 1)", x.brake(0, 1), 0);
        int[] foes = {4, 0, 1};
        for (int phase = 0; phase < 3; phase++) {
            Check.due("phase(" + phase + ", 8)", x.phase(phase, 8), foes[phase]);
        }
        Check.loadInto(x, "phase 1 1;phase 0 0;");
        Check.ring(x, 0, -1, 3, 0, 1);
        Check.ring(x, 1, -1, 3, 0, -1);
        Check.due("marked(0, 2)", x.marked(0, 2), 20);
    }

    private static void loadWithAFaultKeepsTheOldCrossing() {
        RingedLights x = Check.of("phase 0 0;phase 0 1;cycle 40;");
        x.come(1, 9);
        x.tick(3);
        Check.refused("load with a fault", x, Check.loadInto(x, "phase 1 0 min 7;phase 3 1;"), 9);
        Check.due("many(0)", x.many(0), 2);
        Check.due("many(1)", x.many(1), 3);
        Check.due("many(2)", x.many(2), 40);
        Check.due("phase(1, 3)", x.phase(1, 3), 9);
        Check.due("phase(0, 0)", x.phase(0, 0), 0);
        Check.due("marked(0, 0)", x.marked(0, 0), 5);
        Check.due("ring(0, 0)", x.ring(0, 0), 0);
        Check.refused("load(1): the tape is gone", x, x.load(1), 1);
        Check.due("fault(0)", x.fault(0), 4);
    }

    private static void blanksAndTokens() {
        Check.due("load of blanks", Check.of(" \n\n  ").many(0), 0);
        RingedLights x = Check.of("\n phase0 1min3pass\n4;phase 001 000 ;cycle020;offset 0 ;");
        Check.due("many(0)", x.many(0), 2);
        Check.due("many(2)", x.many(2), 20);
        Check.due("phase(0, 1)", x.phase(0, 1), 1);
        Check.due("phase(1, 0)", x.phase(1, 0), 1);
        Check.due("marked(0, 0)", x.marked(0, 0), 3);
        Check.due("marked(0, 1)", x.marked(0, 1), 4);
        Check.due("marked(1, 1)", x.marked(1, 1), 2);
    }

    private static void marksTold() {
        String least = "min 1 pass 1 max 1 yellow 1 clear 0 walk 0 halt 0 recall 0 split 0 rate 0;";
        String most = "rate 30 split 60 recall 3 halt 20 walk 20 clear 4 yellow 5 max 60 pass 9 min 30;";
        RingedLights x = Check.of("phase 0 0 " + least + "phase 1 1 " + most + "cycle 240;offset 239;");
        int[] leasts = {1, 1, 1, 1, 0, 0, 0, 0, 0, 0};
        int[] mosts = {30, 9, 60, 5, 4, 20, 20, 3, 60, 30};
        for (int mark = 0; mark < 10; mark++) {
            Check.due("marked(0, " + mark + ")", x, x.marked(0, mark), leasts[mark], 0);
            Check.due("marked(1, " + mark + ")", x, x.marked(1, mark), mosts[mark], 0);
        }
        Check.due("many(2)", x.many(2), 240);
        Check.due("many(3)", x.many(3), 239);
    }

    private static void marksWithout() {
        RingedLights x = Check.of("phase 0 0;cycle 0;");
        int[] without = {5, 2, 20, 3, 1, 0, 0, 0, 0, 0};
        for (int mark = 0; mark < 10; mark++) {
            Check.due("marked(0, " + mark + ")", x.marked(0, mark), without[mark]);
        }
        Check.due("many(2)", x.many(2), 0);
    }

    private static void breaksTold() {
        RingedLights x = Check.of(EIGHT.substring(0, 60) + "phase 1 0;phase 1 1;"
                + "break 1 track 128 30 dwell 65 0 cut 20;break 0 track 0 0 dwell 064 30 cut 0;");
        int[] engine = {128, 30, 65, 0, 20, 0};
        int[] train = {0, 0, 64, 30, 0, 0};
        for (int what = 0; what < 6; what++) {
            Check.due("brake(1, " + what + ")", x, x.brake(1, what), engine[what], 0);
            Check.due("brake(0, " + what + ")", x, x.brake(0, what), train[what], 0);
        }
    }

    private static void faultOfTheLatestLoad() {
        RingedLights x = new RingedLights();
        for (int what = -1; what < 4; what++) {
            Check.due("fault(" + what + ") ahead of any load", x.fault(what), -1);
        }
        Check.loadInto(x, "phase 0 0; cycle 7;");
        Check.due("fault(0)", x.fault(0), 4);
        Check.due("fault(1)", x.fault(1), 17);
        Check.due("fault(2)", x.fault(2), 1);
        Check.due("fault(-1)", x.fault(-1), -1);
        Check.due("fault(3)", x.fault(3), -1);
        x.load(5);
        Check.due("fault(0) behind a load with status 1", x.fault(0), 4);
        Check.loadInto(x, "phase 0 0;");
        Check.due("fault(0) without one", x.fault(0), 0);
        Check.due("fault(1) without one", x.fault(1), -1);
        Check.due("fault(2) without one", x.fault(2), -1);
        // neither the lines nor what was told of an earlier text count in a later one
        String all = "cycle 30;offset 3;break 0 track 0 0 dwell 0 0 cut 0;";
        Check.due("load", x, Check.loadInto(x, all), 0, 0);
        Check.due("load again", x, Check.loadInto(x, all), 0, 0);
        Check.refused("load with a fault", x, Check.loadInto(x, all + "cycle 30;"), 9);
        Check.due("fault(2)", x.fault(2), 3);
        Check.refused("load with a fault", x, Check.loadInto(x, "cycle 30;cycle"), 9);
        Check.due("fault(0)", x.fault(0), 5);
        Check.due("fault(2)", x.fault(2), 1);
    }

    private static void noToken() {
        Check.fault("phase 0 0;P", 1, 10, 1);
        Check.fault("phase\t0 0;", 1, 5, 0);
        Check.fault("phase 0 0\r;", 1, 9, 0);
        Check.fault("phase 0,0;", 1, 7, 0);
        Check.fault("\u00ff", 1, 0, 0);
        Check.fault(" \u0000", 1, 1, 0);
        Check.fault("cycle -40;", 1, 6, 0);
        Check.fault("phase 0 0 min 0005;", 1, 14, 0);
        Check.fault("1234", 1, 0, 0);
        Check.fault("cycle 99999999999999999999;", 1, 6, 0);
        Check.fault("cycle 40 1000;", 1, 9, 0);
        Check.fault("cycle 40;`", 1, 9, 1);
        Check.fault("cycle 40;{", 1, 9, 1);
        Check.fault("cycle 40;/", 1, 9, 1);
        Check.fault("cycle 40;:", 1, 9, 1);
    }

    private static void misplaced() {
        Check.fault("phase 0 0", 2, 9, 0);
        Check.fault("phase 0 0;  phase 0", 2, 19, 1);
        Check.fault("phase 0 0 \n", 2, 11, 0);
        Check.fault("p", 2, 0, 0);
        Check.fault("phases 0 0;", 2, 0, 0);
        Check.fault("phas 0 0;", 2, 0, 0);
        Check.fault("phasz 0 0;", 2, 0, 0);
        Check.fault("z", 2, 0, 0);
        Check.fault("a", 2, 0, 0);
        Check.fault("xhase 0 0;", 2, 0, 0);
        Check.fault("5;", 2, 0, 0);
        Check.fault(";", 2, 0, 0);
        Check.fault("cycle 40;;", 2, 9, 1);
        Check.fault("phase ;", 2, 6, 0);
        Check.fault("phase 0 ;", 2, 8, 0);
        Check.fault("phase 0 min 5;", 2, 8, 0);
        Check.fault("phase 0 0 min;", 2, 13, 0);
        Check.fault("phase 0 0 min pass 2;", 2, 14, 0);
        Check.fault("phase 0 0 min 5 7;", 2, 16, 0);
        Check.fault("phase 0 0 7;", 2, 10, 0);
        Check.fault("phase 0 0 mini 7;", 2, 10, 0);
        Check.fault("phase 0 0 pass 2 cycle 40;", 2, 17, 0);
        Check.fault("phase 0 0 phase 0 1;", 2, 10, 0);
        Check.fault("cycle;", 2, 5, 0);
        Check.fault("cycle 40 50;", 2, 9, 0);
        Check.fault("cycle 40", 2, 8, 0);
        Check.fault("offset cycle", 2, 7, 0);
        Check.fault("offset 4 4;", 2, 9, 0);
        Check.fault("break;", 2, 5, 0);
        Check.fault("break 0 dwell 0 0;", 2, 8, 0);
        Check.fault("break 0 0 0 dwell", 2, 8, 0);
        Check.fault("break 0 track 0 0 0 0 cut", 2, 18, 0);
        Check.fault("break 0 track 0 0 dwell 0 0 0;", 2, 28, 0);
        Check.fault("break 0 track dwell", 2, 14, 0);
        Check.fault("break 0 track 0 dwell", 2, 16, 0);
        Check.fault("break 0 track 0 0 cut 0;", 2, 18, 0);
        Check.fault("break 0 track 0 0 dwell 0 0;", 2, 27, 0);
        Check.fault("break 0 track 0 0 dwell 0 0 cut;", 2, 31, 0);
        Check.fault("break 0 track 0 0 dwell 0 0 cut 0 0;", 2, 34, 0);
        Check.fault("break 0 track 0 0 dwell 0 0 cut 0", 2, 33, 0);
    }

    private static void unknownPhase() {
        Check.fault("break 0 track 1 0 dwell 0 0 cut 0;phase 0 0;", 3, 14, 0);
        Check.fault("phase 0 0;break 1 track 1 0 dwell 2 0 cut 0;", 3, 34, 1);
        Check.fault("phase 0 0;break 1 track 3 0 dwell 0 0 cut 0;", 3, 24, 1);
        Check.fault("phase 0 0;phase 0 0;break 1 track 7 0 dwell 0 0 cut 0;", 3, 34, 2);
        Check.fault(EIGHT + "break 1 track 256 0 dwell 0 0 cut 0;", 3, 94, 8);
        Check.fault(EIGHT + "break 1 track 999 0 dwell 0 0 cut 0;", 3, 94, 8);
    }

    private static void badNumber() {
        Check.fault("phase 2 0;", 4, 6, 0);
        Check.fault("phase 1 2;", 4, 8, 0);
        Check.fault("phase 0 0;phase 0 999;", 4, 18, 1);
        Check.fault("cycle 1;", 4, 6, 0);
        Check.fault("cycle 19;", 4, 6, 0);
        Check.fault("cycle 241;", 4, 6, 0);
        Check.fault("offset 240;", 4, 7, 0);
        Check.fault("break 2 track", 4, 6, 0);
        Check.fault("break 0 track 0 31", 4, 16, 0);
        Check.fault("break 0 track 0 30 dwell 0 31", 4, 27, 0);
        Check.fault("break 0 track 0 30 dwell 0 30 cut 21", 4, 34, 0);
        Check.fault("phase 0 0;phase 0 1;break 0 track 3 0", 4, 34, 2);
        Check.fault("phase 0 0;phase 0 0;break 0 track 3 0", 4, 34, 2);
        Check.fault("phase 0 0;phase 1 1;break 0 track 3 0", 4, 34, 2);
        Check.fault("phase 0 0;phase 1 1;break 0 track 1 0 dwell 3 0", 4, 44, 2);
        Check.due("phases that are no foes", Check.of("phase 0 1;phase 1 1;break 0 track 3 0 dwell 3 0 cut 0;").many(0), 2);
    }

    private static void badMark() {
        String[] below = {"min 0", "pass 0", "max 0", "yellow 0"};
        String[] above = {"min 31", "pass 10", "max 61", "yellow 6", "clear 5", "walk 21", "halt 21", "recall 4",
            "split 61", "rate 31"};
        for (String mark : below) {
            Check.fault("phase 0 0 " + mark + ";", 4, 11 + mark.indexOf(' '), 0);
        }
        for (String mark : above) {
            Check.fault("phase 0 0 " + mark + ";", 4, 11 + mark.indexOf(' '), 0);
        }
    }

    private static void toldTwice() {
        for (String mark : new String[] {"min 1", "pass 1", "max 1", "yellow 1", "clear 1", "walk 1", "halt 1",
            "recall 1", "split 0", "rate 0"}) {
            Check.fault("phase 0 0 " + mark + "  " + mark + ";", 5, 12 + mark.length(), 0);
        }
        Check.fault("phase 0 0 min 5 min;", 5, 16, 0);
        Check.fault("cycle 0; cycle", 5, 9, 1);
        Check.fault("offset 0;cycle 0;offset 0;", 5, 17, 2);
        String train = "break 0 track 0 0 dwell 0 0 cut 0;";
        String engine = "break 1 track 0 0 dwell 0 0 cut 0;";
        Check.fault(train + engine + train, 5, 74, 2);
        Check.fault(engine + engine, 5, 40, 1);
        Check.fault(engine + "break 2", 4, 40, 1);
        Check.due("marks of unlike phases", Check.of("phase 0 0 min 6;phase 0 0 min 7;" + train + engine).many(0), 2);
    }

    private static void ninthPhase() {
        Check.fault(EIGHT + "phase", 6, 80, 8);
        Check.fault(EIGHT + "cycle 40;  phase 5 5;", 6, 91, 9);
        Check.fault(EIGHT + "cycle phase", 2, 86, 8);
        Check.due("eight phases", Check.of(EIGHT).many(0), 8);
    }

    private static void firstFaultCounts() {
        Check.fault("phase 9 0 $", 4, 6, 0);
        Check.fault("phase 0 0 min 99 $", 4, 14, 0);
        Check.fault("cycle 5$", 4, 6, 0);
        Check.fault("phase 0 0;cycle 30;cycle 3", 5, 19, 2);
        Check.fault("phase 0 0;!phase 4", 1, 10, 1);
        Check.fault("break 0 track 1 99", 3, 14, 0);
        Check.fault("cycle 30;cycle$", 5, 9, 1);
    }
}
