/** The bounds that section 1 and promises 1 to 5 name, of the tape and of the text: a test for each sentence. */
public final class TextBoundsTest {
    private static final int[] WILD = {-1, Integer.MIN_VALUE, Integer.MAX_VALUE};
    private static final String EIGHT =
            "phase 0 0;phase 0 1;phase 1 0;phase 1 1;phase 0 0;phase 0 1;phase 1 0;phase 1 1;";
    private static final String NO_BREAK = " track 0 0 dwell 0 0 cut 0;";

    private TextBoundsTest() {
    }

    public static void main(String[] args) {
        newObjectHasNothing();
        newObjectIsAtAStartOfNone();
        newObjectHasAnEmptyTape();
        newObjectHasStatus0();
        statusIsOfTheLatestCallThatHasOne();
        feedPutsTwentyBytes();
        feedStopsAt700();
        feedBeyond700ChangesNothing();
        loadOfNone();
        loadOfAll();
        loadOfMoreThanThereAre();
        loadBelowNone();
        loadOfTooManyGoesAheadOfAFault();
        loadEmptiesTheTape();
        loadWithAFaultLeavesTheOld();
        loadLeavesTheMarksOfAll();
        loadAnewInABreak();
        loadAnewInAFlash();
        faultAheadOfAnyLoad();
        faultWithoutOne();
        faultOfAnother();
        faultIsNotOfALoadRefused();
        eightPhases();
        ringsAndSides();
        marksOfAText();
        marksWithout();
        cycleOfAText();
        offsetOfAText();
        numbersOfABreak();
        breaksWithout();
        setsOfABreak();
        textOf700Bytes();
        emptyText();
        blanks();
        tokensGoAsLongAsTheyCan();
        signsOfAWord();
        digitsOfANumber();
        marksAnyNumberOfTimes();
        noTokenBeginsSo();
        fourDigits();
        eachTokenOutOfPlace();
        eachPlaceCutShort();
        setOfAPhaseThatIsNotYet();
        setOfTwoFoes();
        toldTwiceAMark();
        toldTwiceTheClock();
        toldTwiceABreak();
        ninthPhase();
        leastKindOfOneToken();
        firstAlongTheText();
        lineOfAFault();
        Check.end();
    }

    // ---- promise 1

    private static void newObjectHasNothing() {
        Doc.promise(1, "No PHASES, no MARKS");
        RingedLights x = new RingedLights();
        Check.due("many(0)", x, x.many(0), 0, 0);
        Check.refused("phase(0, 0)", x, x.phase(0, 0), 2);
        Check.due("many(11)", x, x.many(11), 0, 0);
        Check.refused("back()", x, x.back(), 5);
    }

    private static void newObjectIsAtAStartOfNone() {
        Doc.promise(1, "a START of none");
        RingedLights x = new RingedLights();
        Check.ring(x, 0, -1, 3, 0, -1, 0, 0, 0, 0, 0, 0);
        Check.ring(x, 1, -1, 3, 0, -1, 0, 0, 0, 0, 0, 0);
    }

    private static void newObjectHasAnEmptyTape() {
        Doc.promise(1, "an empty tape");
        RingedLights x = new RingedLights();
        Check.refused("load(1)", x, x.load(1), 1);
        Check.due("feed", x.feed(0, 0, 0, 0, 0), 20);
    }

    private static void newObjectHasStatus0() {
        Doc.promise(1, "STATUS 0");
        Check.due("status()", new RingedLights().status(), 0);
    }

    // ---- promise 2

    private static void statusIsOfTheLatestCallThatHasOne() {
        Doc.promise(2, "STATUS of the latest call that has one.");
        Doc.term(7, "status(), feed(), fault() have none.");
        RingedLights x = new RingedLights();
        Check.due("reset()", x, x.reset(), 5);
        x.status();
        Check.due("status() behind itself", x.status(), 5);
        x.fault(0);
        Check.due("status() behind fault(0)", x.status(), 5);
        x.fault(-1);
        Check.due("status() behind fault(-1)", x.status(), 5);
        for (int i = 0; i < 35; i++) {
            x.feed(0, 0, 0, 0, 0);
        }
        Check.due("status() behind feed()", x.status(), 5);
        Check.due("feed beyond 700", x.feed(0, 0, 0, 0, 0), -1);
        Check.due("status() behind it", x.status(), 5);
        x.sum(0);
        Check.due("status() behind sum(0)", x.status(), 0);
    }

    // ---- promise 3

    private static void feedPutsTwentyBytes() {
        Doc.promise(3, "Twenty bytes come behind those on the tape, the highest of each int first: how many it has");
        String text = "phase 0 0 min 12;cycle 34;offset 56; ";
        for (int at = 0; at < 20; at++) {
            RingedLights x = new RingedLights();
            Check.due("feed", x.feed(0x20202020, 0x20202020, 0x20202020, 0x20202020, 0x20202020), 20);
            int[] five = {0x20202020, 0x20202020, 0x20202020, 0x20202020, 0x20202020};
            int shift = 24 - 8 * (at % 4);
            five[at / 4] = five[at / 4] & ~(255 << shift) | 255 << shift;
            Check.due("feed", x.feed(five[0], five[1], five[2], five[3], five[4]), 40);
            Check.refused("load(40)", x, x.load(40), 9);
            Check.due("the place of a wrong byte", x.fault(1), 20 + at);
        }
        RingedLights x = new RingedLights();
        Check.feedText(x, text);
        Check.due("load", x, x.load(text.length()), 1, 0);
        Check.due("marked(0, 0)", x.marked(0, 0), 12);
        Check.due("many(2)", x.many(2), 34);
        Check.due("many(3)", x.many(3), 56);
    }

    private static RingedLights full() {
        RingedLights x = new RingedLights();
        Check.feedText(x, "phase 0 0;phase 1 1;");
        for (int i = 2; i <= 35; i++) {
            int last = i == 35 ? 0x2020203b : 0x20202020;
            Check.due("feed " + i, x.feed(0x20202020, 0x20202020, 0x20202020, 0x20202020, last), 20 * i);
        }
        return x;
    }

    private static void feedStopsAt700() {
        Doc.promise(3, "NONE if there would be more than 700.");
        RingedLights x = full();
        Check.due("feed 36", x.feed(0, 0, 0, 0, 0), -1);
        Check.due("feed 37", x.feed(0, 0, 0, 0, 0), -1);
        Check.due("load(699)", x, x.load(699), 2, 0);
        Check.due("feed behind it", x.feed(0, 0, 0, 0, 0), 20);
    }

    private static void feedBeyond700ChangesNothing() {
        Doc.promise(3, "NONE if there would be more than 700.");
        RingedLights x = full();
        x.feed(0, 0, 0, 0, 0);
        Check.refused("load(701)", x, x.load(701), 1);
        Check.refused("load(720)", x, x.load(720), 1);
        Check.refused("load(700)", x, x.load(700), 9);
        Check.due("the sign at the end can't stand there", x.fault(0), 2);
        Check.due("its place", x.fault(1), 699);
        Check.due("its line", x.fault(2), 2);
    }

    // ---- promise 4

    private static void loadOfNone() {
        Doc.promise(4, "The first n bytes of the tape (which is empty then) are the CROSSING");
        RingedLights x = new RingedLights();
        Check.due("load(0) of an empty tape", x, x.load(0), 0, 0);
        Check.due("fault(0)", x.fault(0), 0);
        x = Check.of("phase 0 0;");
        Check.feedText(x, "phase 0 0;phase 0 0;");
        Check.due("load(0) of a tape of 20", x, x.load(0), 0, 0);
        Check.due("many(0)", x.many(0), 0);
        Check.refused("load(1): it is empty then", x, x.load(1), 1);
    }

    private static void loadOfAll() {
        Doc.promise(4, "how many PHASES");
        RingedLights x = new RingedLights();
        Check.feedText(x, "phase 0 0;phase 0 0;");
        Check.due("load(20)", x, x.load(20), 2, 0);
        x = new RingedLights();
        Check.feedText(x, "phase 0 0;phase 0 0;");
        Check.due("load(10)", x, x.load(10), 1, 0);
        x = new RingedLights();
        Check.feedText(x, "phase 0 0;phase 0 0;");
        Check.refused("load(19)", x, x.load(19), 9);
        Check.due("fault(1): the text's length", x.fault(1), 19);
    }

    private static RingedLights taped() {
        RingedLights x = Check.of("phase 0 0;phase 0 1;");
        x.tick(3);
        Check.feedText(x, "phase 1 1 min 3 ; ;;");
        return x;
    }

    private static void loadOfMoreThanThereAre() {
        Doc.promise(4, "1: the tape has not so many, too");
        Still.refused("load(21)", TextBoundsTest::taped, x -> x.load(21), 1);
        Still.refused("load(most int)", TextBoundsTest::taped, x -> x.load(Integer.MAX_VALUE), 1);
        RingedLights x = taped();
        Check.refused("load(21)", x, x.load(21), 1);
        Check.due("load(17): the tape has stayed", x, x.load(17), 1, 0);
    }

    private static void loadBelowNone() {
        Doc.term(7, "1 a number that can't be (below 0, too, of one that counts)");
        Still.refused("load(-1)", TextBoundsTest::taped, x -> x.load(-1), 1);
        Still.refused("load(least int)", TextBoundsTest::taped, x -> x.load(Integer.MIN_VALUE), 1);
    }

    private static void loadOfTooManyGoesAheadOfAFault() {
        Doc.term(7, "STATUS of a call is the first of these that holds");
        RingedLights x = taped();
        Check.refused("load(21) of a text with a fault", x, x.load(21), 1);
        Check.refused("load(20)", x, x.load(20), 9);
        Check.due("fault(1)", x.fault(1), 18);
    }

    private static void loadEmptiesTheTape() {
        Doc.promise(4, "(which is empty then)");
        RingedLights x = taped();
        Check.due("load(17) of 20", x, x.load(17), 1, 0);
        Check.refused("load(1)", x, x.load(1), 1);
        Check.due("feed", x.feed(0, 0, 0, 0, 0), 20);
    }

    private static void loadWithAFaultLeavesTheOld() {
        Doc.promise(4, "9: the old one stays");
        Doc.term(7, "(but load() with 9 the tape, and what fault() tells)");
        RingedLights x = taped();
        RingedLights other = taped();
        Check.due("load(17)", other, other.load(17), 1, 0);
        Check.refused("load(20)", x, x.load(20), 9);
        Check.refused("load(1): the tape is empty", x, x.load(1), 1);
        Check.due("fault(0)", x.fault(0), 2);
        Check.due("many(0)", x.many(0), 2);
        Check.due("many(1)", x.many(1), 3);
        Check.ring(x, 0, 0, 0, 2, -1, 2, 0);
        Check.due("marked(0, 0)", x.marked(0, 0), 5);
        Check.due("marked(0, 0) of the other", other.marked(0, 0), 3);
    }

    private static void loadLeavesTheMarksOfAll() {
        Doc.promise(4, "MARKS of all stay");
        RingedLights x = Check.of("phase 0 0;");
        x.keep();
        x.keep();
        x.keep();
        Check.due("load", x, Check.loadInto(x, "phase 0 0;phase 0 1;"), 2, 0);
        Check.due("many(11)", x.many(11), 3);
        Check.refused("keep()", x, x.keep(), 3);
        Check.due("back()", x, x.back(), 2, 0);
        Check.due("many(0)", x.many(0), 1);
    }

    private static void newCrossing(RingedLights x) {
        Check.due("load", x, Check.loadInto(x, "phase 1 1 walk 4;phase 0 1 walk 4;"), 2, 0);
        int[] many = {2, 0, 0, 0, 0, 0, 0, -1, 0, 0, 0, 0};
        for (int what = 0; what < 12; what++) {
            Check.due("many(" + what + ") of a new crossing", x, x.many(what), many[what], 0);
        }
        for (int what = 0; what < 6; what++) {
            Check.due("sum(" + what + ") of a new crossing", x, x.sum(what), what == 4 ? -1 : 0, 0);
            Check.due("brake(0, " + what + ") of a new crossing", x, x.brake(0, what), 0, 0);
        }
        for (int what = 2; what < 8; what++) {
            Check.due("phase(0, " + what + ") of a new crossing", x, x.phase(0, what), 0, 0);
            Check.due("phase(1, " + what + ") of a new crossing", x, x.phase(1, what), 0, 0);
        }
        Check.refused("event(0, 0) of a new crossing", x, x.event(0, 0), 5);
        Check.ring(x, 0, -1, 3, 0, 1);
        Check.ring(x, 1, -1, 3, 0, 0);
        x.tick(1);
        Check.ring(x, 0, 1, 0, 0, -1, 0, 0, 0, 0, 0, 0);
        Check.ring(x, 1, 0, 0, 0, -1, 0, 0, 0, 0, 0, 0);
    }

    private static RingedLights busy() {
        RingedLights x = Check.of("cycle 30;offset 3;phase 0 0 walk 2 split 3;phase 0 1 walk 2;break 0 track 1 9 dwell 2 9 cut 3;");
        x.come(0, 3);
        x.come(1, 50);
        x.tick(3);
        x.call(0, true);
        x.call(1, true);
        x.call(1, false);
        x.call(0, false);
        x.ask(0);
        x.tick(2);
        Check.due("sum(0)", x.sum(0), 3);
        return x;
    }

    private static void loadAnewInABreak() {
        Doc.term(2, "With a new CROSSING: TICK 0, a START, all QUEUES (0 to 99 who wait, of each PHASE) 0, nothing called, "
                + "CLOCK 0, no BREAK is WANTED, begun, no FLASH, no lamp STICKS, nobody was LET GO, WAITED 0, no EVENTS.");
        RingedLights x = busy();
        Check.due("many(8)", x.many(8), 2);
        Check.due("many(9)", x.many(9), 1);
        newCrossing(x);
    }

    private static void loadAnewInAFlash() {
        Doc.term(2, "nothing called, CLOCK 0, no BREAK is WANTED, begun, no FLASH, no lamp STICKS");
        RingedLights x = busy();
        x.stick(0, true);
        x.stick(1, true);
        x.tick(4);
        Check.due("many(5)", x.many(5), 1);
        newCrossing(x);
        x.tick(300);
        Check.due("many(5): no lamp sticks any more", x.many(5), 0);
    }

    // ---- promise 5

    private static void faultAheadOfAnyLoad() {
        Doc.promise(5, "NONE for others, and ahead of any.");
        RingedLights x = new RingedLights();
        for (int what = 0; what < 3; what++) {
            Check.due("fault(" + what + ")", x.fault(what), -1);
        }
        x.load(1);
        x.feed(0, 0, 0, 0, 0);
        Check.due("fault(0) behind a load with status 1", x.fault(0), -1);
    }

    private static void faultWithoutOne() {
        Doc.promise(5, "what 0: the FAULT (0 without one), 1: its place (NONE without), 2: its LINE (NONE without)");
        RingedLights x = Check.of("phase 0 0;");
        Check.due("fault(0)", x.fault(0), 0);
        Check.due("fault(1)", x.fault(1), -1);
        Check.due("fault(2)", x.fault(2), -1);
        Check.loadInto(x, ";");
        Check.due("fault(0)", x.fault(0), 2);
        Check.due("fault(1)", x.fault(1), 0);
        Check.due("fault(2)", x.fault(2), 0);
        Check.loadInto(x, "");
        Check.due("fault(0)", x.fault(0), 0);
        Check.due("fault(1)", x.fault(1), -1);
        Check.due("fault(2)", x.fault(2), -1);
    }

    private static void faultOfAnother() {
        Doc.promise(5, "NONE for others");
        RingedLights x = new RingedLights();
        Check.loadInto(x, ";");
        Check.due("fault(3)", x.fault(3), -1);
        for (int what : WILD) {
            Check.due("fault(" + what + ")", x.fault(what), -1);
        }
    }

    private static void faultIsNotOfALoadRefused() {
        Doc.promise(5, "Of the latest load() with STATUS 0 or 9");
        RingedLights x = new RingedLights();
        Check.loadInto(x, "phase 0 0;cycle 9;");
        Check.refused("load(1)", x, x.load(1), 1);
        Check.refused("load(-1)", x, x.load(-1), 1);
        Check.due("fault(0)", x.fault(0), 4);
        Check.due("fault(1)", x.fault(1), 16);
        Check.due("fault(2)", x.fault(2), 1);
        Check.due("load(0)", x, x.load(0), 0, 0);
        Check.due("fault(0)", x.fault(0), 0);
    }

    // ---- section 1: numbers

    private static void eightPhases() {
        Doc.term(1, "PHASES, at most 8, numbered from 0 on");
        RingedLights x = Check.of(EIGHT);
        Check.due("many(0)", x.many(0), 8);
        Check.due("phase(7, 0)", x, x.phase(7, 0), 1, 0);
        Check.refused("phase(8, 0)", x, x.phase(8, 0), 2);
        Check.fault(EIGHT + "phase 0 0;", 6, 80, 8);
    }

    private static void ringsAndSides() {
        Doc.term(1, "each in RING 0 or 1, on SIDE 0 or 1 of the barrier");
        RingedLights x = Check.of("phase 0 0;phase 0 1;phase 1 0;phase 1 1;phase 001 00;");
        for (int phase = 0; phase < 5; phase++) {
            Check.due("phase(" + phase + ", 0)", x, x.phase(phase, 0), phase / 2 % 2 + phase / 4, 0);
            Check.due("phase(" + phase + ", 1)", x, x.phase(phase, 1), phase % 2, 0);
        }
        Check.fault("phase 2 0;", 4, 6, 0);
        Check.fault("phase 0 2;", 4, 8, 0);
        Check.fault("phase 999 0;", 4, 6, 0);
        Check.fault("phase 1 010;", 4, 8, 0);
    }

    private static void markOfAText(String sentence, int mark, String word, int least, int most) {
        Doc.term(1, sentence);
        String line = "phase 0 1 " + word + " ";
        int place = line.length();
        Check.due(word + " " + least, Check.of(line + least + ";").marked(0, mark), least);
        Check.due(word + " " + most, Check.of(line + most + ";").marked(0, mark), most);
        Check.due(word + " 0" + most, Check.of(line + "0" + most + ";").marked(0, mark), most);
        if (least > 0) {
            Check.fault(line + (least - 1) + ";", 4, place, 0);
        }
        Check.fault(line + (most + 1) + ";", 4, place, 0);
        Check.fault(line + "999;", 4, place, 0);
    }

    private static void marksOfAText() {
        markOfAText("0 MIN (1 to 30; 5 without)", 0, "min", 1, 30);
        markOfAText("1 PASS (1 to 9; 2 without)", 1, "pass", 1, 9);
        markOfAText("2 MAX (1 to 60; 20 without)", 2, "max", 1, 60);
        markOfAText("3 YELLOW (1 to 5; 3 without)", 3, "yellow", 1, 5);
        markOfAText("4 CLEAR (0 to 4; 1 without)", 4, "clear", 0, 4);
        markOfAText("5 WALK, 6 HALT (0 to 20 each; 0 without)", 5, "walk", 0, 20);
        markOfAText("5 WALK, 6 HALT (0 to 20 each; 0 without)", 6, "halt", 0, 20);
        markOfAText("7 RECALL (0 none, 1, 2 to its MAX, 3 on foot; 0 without)", 7, "recall", 0, 3);
        markOfAText("8 SPLIT (0 to 60; 0 without)", 8, "split", 0, 60);
        markOfAText("9 RATE (0 to 30; 0 without)", 9, "rate", 0, 30);
    }

    private static void marksWithout() {
        Doc.term(1, "0 MIN (1 to 30; 5 without), 1 PASS (1 to 9; 2 without), 2 MAX (1 to 60; 20 without)");
        int[] without = {5, 2, 20, 3, 1, 0, 0, 0, 0, 0};
        RingedLights x = Check.of("phase 0 0 min 9 pass 9 max 9 yellow 5 clear 4 walk 9 halt 9 recall 2 split 9 rate 9;");
        Check.loadInto(x, "phase 0 0;");
        for (int mark = 0; mark < 10; mark++) {
            Check.due("marked(0, " + mark + ") without", x, x.marked(0, mark), without[mark], 0);
        }
    }

    private static void cycleOfAText() {
        Doc.term(1, "CYCLE (0: no CLOCK, or 20 to 240; 0 without)");
        Check.due("without", Check.of("phase 0 0;").many(2), 0);
        Check.due("cycle 0", Check.of("cycle 0;").many(2), 0);
        Check.due("cycle 000", Check.of("cycle 000;").many(2), 0);
        Check.due("cycle 20", Check.of("cycle 20;").many(2), 20);
        Check.due("cycle 240", Check.of("cycle 240;").many(2), 240);
        Check.fault("cycle 1;", 4, 6, 0);
        Check.fault("cycle 19;", 4, 6, 0);
        Check.fault("cycle 241;", 4, 6, 0);
        Check.fault("cycle 999;", 4, 6, 0);
        RingedLights x = Check.of("cycle 0;offset 7;phase 0 0;");
        x.tick(9);
        Check.due("many(4): no CLOCK", x.many(4), 0);
    }

    private static void offsetOfAText() {
        Doc.term(1, "OFFSET (0 to 239; 0 without)");
        Check.due("without", Check.of("phase 0 0;").many(3), 0);
        Check.due("offset 0", Check.of("offset 0;").many(3), 0);
        Check.due("offset 239", Check.of("offset 239;").many(3), 239);
        Check.due("offset 239 with a cycle of 20", Check.of("cycle 20;offset 239;").many(3), 239);
        Check.fault("offset 240;", 4, 7, 0);
        Check.fault("offset 999;", 4, 7, 0);
    }

    private static void numbersOfABreak() {
        Doc.term(1, "BREAKS, 0 a train, 1 an engine: each a TRACK and a DWELL");
        Doc.term(1, "TRACK and DWELL for so many TICKS (0 to 30), CUT (0 to 20)");
        RingedLights x = Check.of("break 0 track 0 0 dwell 0 30 cut 20;break 1 track 0 30 dwell 0 0 cut 0;");
        int[] train = {0, 0, 0, 30, 20};
        int[] engine = {0, 30, 0, 0, 0};
        for (int what = 0; what < 5; what++) {
            Check.due("brake(0, " + what + ")", x, x.brake(0, what), train[what], 0);
            Check.due("brake(1, " + what + ")", x, x.brake(1, what), engine[what], 0);
        }
        Check.fault("break 2" + NO_BREAK, 4, 6, 0);
        Check.fault("break 999" + NO_BREAK, 4, 6, 0);
        Check.fault("break 0 track 0 31 dwell 0 0 cut 0;", 4, 16, 0);
        Check.fault("break 0 track 0 0 dwell 0 31 cut 0;", 4, 26, 0);
        Check.fault("break 0 track 0 0 dwell 0 0 cut 21;", 4, 32, 0);
    }

    private static void breaksWithout() {
        Doc.term(1, "All 0 without.");
        RingedLights x = Check.of("phase 0 0;break 1 track 1 2 dwell 1 3 cut 4;");
        for (int what = 0; what < 6; what++) {
            Check.due("brake(0, " + what + ") without", x, x.brake(0, what), 0, 0);
        }
        Check.loadInto(x, "phase 0 0;");
        for (int what = 0; what < 6; what++) {
            Check.due("brake(1, " + what + ") without", x, x.brake(1, what), 0, 0);
        }
    }

    private static void setsOfABreak() {
        Doc.term(1, "SETS of PHASES (bits) no two of which are FOES");
        RingedLights x = Check.of(EIGHT + "break 0 track 0 1 dwell 5 1 cut 0;break 1 track 160 1 dwell 128 1 cut 0;");
        Check.due("brake(0, 0): none", x, x.brake(0, 0), 0, 0);
        Check.due("brake(0, 2): of each ring one", x, x.brake(0, 2), 5, 0);
        Check.due("brake(1, 0): of each ring one", x, x.brake(1, 0), 160, 0);
        Check.due("brake(1, 2): the last alone", x, x.brake(1, 2), 128, 0);
        Check.fault(EIGHT + "break 0 track 17 1 dwell 0 0 cut 0;", 4, 94, 8);
        Check.fault(EIGHT + "break 0 track 3 1 dwell 0 0 cut 0;", 4, 94, 8);
        Check.fault(EIGHT + "break 0 track 9 1 dwell 0 0 cut 0;", 4, 94, 8);
        Check.fault(EIGHT + "break 0 track 0 1 dwell 255 0 cut 0;", 4, 104, 8);
        Check.due("no phases, no set", Check.of("break 0" + NO_BREAK).brake(0, 0), 0);
    }

    // ---- section 1: tokens

    private static void textOf700Bytes() {
        Doc.term(1, "A CROSSING is a TEXT of at most 700 bytes.");
        StringBuilder text = new StringBuilder("phase 0 0;");
        while (text.length() < 691) {
            text.append(text.length() % 2 == 0 ? ' ' : '\n');
        }
        text.append("offset 7;");
        Check.due("its length", text.length(), 700);
        RingedLights x = Check.of(text.toString());
        Check.due("many(0)", x.many(0), 1);
        Check.due("many(3)", x.many(3), 7);
        text.setCharAt(699, 'x');
        Check.fault(text.toString(), 2, 699, 1);
        text.setCharAt(699, '8');
        Check.fault(text.toString(), 2, 700, 1);
    }

    private static void emptyText() {
        Doc.term(1, "TEXT: {LINE}.");
        RingedLights x = Check.of("");
        Check.due("many(0)", x.many(0), 0);
        Check.due("many(0) of blanks", Check.of(" \n \n").many(0), 0);
        Check.due("tick(1) without phases", x, x.tick(1), 1, 0);
    }

    private static void blanks() {
        Doc.term(1, "between them blanks (10, 32)");
        Check.due("many(0)", Check.of("\n\n phase \n 0\n1\n\n;\n \n").many(0), 1);
        for (char sign : new char[] {0, 9, 11, 12, 13, 31, 33, 160, 255}) {
            Check.fault("cycle" + sign + "40;", 1, 5, 0);
            Check.fault("cycle 40;" + sign, 1, 9, 1);
        }
    }

    private static void tokensGoAsLongAsTheyCan() {
        Doc.term(1, "TOKENS, as long as they go");
        RingedLights x = Check.of("phase0 1min12pass3;cycle40;");
        Check.due("marked(0, 0)", x.marked(0, 0), 12);
        Check.due("marked(0, 1)", x.marked(0, 1), 3);
        Check.due("many(2)", x.many(2), 40);
        Check.fault("phasephase 0 0;", 2, 0, 0);
        Check.fault("phase 00;", 2, 8, 0);
        Check.fault("phase 0 1 minmin 3;", 2, 10, 0);
        Check.fault("phase 0 1 m in 3;", 2, 10, 0);
        Check.fault("cycle 4 0;", 4, 6, 0);
    }

    private static void signsOfAWord() {
        Doc.term(1, "WORDS (small letters)");
        Check.fault("a", 2, 0, 0);
        Check.fault("z", 2, 0, 0);
        Check.fault("azbycx", 2, 0, 0);
        for (char sign : new char[] {'`', '{', 'A', 'P', 'Z', '_', '-', 228}) {
            Check.fault(" " + sign, 1, 1, 0);
            Check.fault("phase" + sign + " 0 0;", 1, 5, 0);
        }
    }

    private static void digitsOfANumber() {
        Doc.term(1, "NUMBERS (1 to 3 digits)");
        RingedLights x = Check.of("phase 0 0 rate 9;offset 12;cycle 234;phase 000 001 rate 03 max 056;");
        Check.due("marked(0, 9)", x.marked(0, 9), 9);
        Check.due("many(3)", x.many(3), 12);
        Check.due("many(2)", x.many(2), 234);
        Check.due("marked(1, 9)", x.marked(1, 9), 3);
        Check.due("marked(1, 2)", x.marked(1, 2), 56);
        Check.fault("offset /", 1, 7, 0);
        Check.fault("offset :", 1, 7, 0);
        Check.fault("offset -1;", 1, 7, 0);
        Check.fault("offset 1.5;", 1, 8, 0);
    }

    private static void marksAnyNumberOfTimes() {
        Doc.term(1, "({ } any number of times.)");
        String all = "rate 1 split 2 recall 1 halt 4 walk 5 clear 2 yellow 1 max 8 pass 9 min 10";
        Check.due("no mark", Check.of("phase 0 0;").marked(0, 0), 5);
        Check.due("one mark", Check.of("phase 0 0 min 7;").marked(0, 0), 7);
        RingedLights x = Check.of("phase 0 0 " + all + ";");
        int[] marks = {10, 9, 8, 1, 2, 5, 4, 1, 2, 1};
        for (int mark = 0; mark < 10; mark++) {
            Check.due("marked(0, " + mark + ")", x.marked(0, mark), marks[mark]);
        }
        Check.fault("phase 0 0 " + all + " 1;", 2, 11 + all.length(), 0);
        Check.fault("phase 0 0 " + all + " rate 1;", 5, 11 + all.length(), 0);
    }

    // ---- section 1: faults

    private static void noTokenBeginsSo() {
        Doc.term(1, "1 no TOKEN begins so");
        Check.fault("$", 1, 0, 0);
        Check.fault("phase 0 0; #", 1, 11, 1);
        Check.fault("phase 0 0 min 3.", 1, 15, 0);
        Check.fault("\u0000", 1, 0, 0);
        Check.fault("\u0080", 1, 0, 0);
    }

    private static void fourDigits() {
        Doc.term(1, "(a NUMBER of 4 digits and more: at its first)");
        Check.fault("cycle 0040;", 1, 6, 0);
        Check.fault("cycle 0000000000000000000000000000000000000000;", 1, 6, 0);
        Check.fault("cycle 4294967336;", 1, 6, 0);
        Check.fault("phase 0 0;\n 1234", 1, 12, 1);
        Check.fault("phase 0 0 0000;", 1, 10, 0);
    }

    /** A text with each kind of line, and for each token what else could not stand there. */
    private static final String[] TOKENS = {"phase", "0", "1", "min", "3", "rate", "0", ";", "cycle", "20", ";", "offset",
        "3", ";", "break", "0", "track", "1", "0", "dwell", "0", "0", "cut", "0", ";"};

    private static String textOf(int from, int to) {
        StringBuilder text = new StringBuilder();
        for (int i = from; i < to; i++) {
            text.append(TOKENS[i]).append(' ');
        }
        return text.toString();
    }

    private static int linesIn(String text) {
        int lines = 0;
        for (int i = 0; i < text.length(); i++) {
            lines += text.charAt(i) == ';' ? 1 : 0;
        }
        return lines;
    }

    private static boolean alike(String token, String other) {
        boolean number = Character.isDigit(token.charAt(0));
        return token.equals(other) || number && Character.isDigit(other.charAt(0));
    }

    private static void eachTokenOutOfPlace() {
        Doc.term(1, "2 it can't stand there");
        Doc.term(1, "LINE: phase NUMBER NUMBER {MARK} ; or cycle NUMBER ; or offset NUMBER ; "
                + "or break NUMBER track NUMBER NUMBER dwell NUMBER NUMBER cut NUMBER ;");
        Check.due("the whole text", Check.of(textOf(0, TOKENS.length)).many(0), 1);
        for (int i = 0; i < TOKENS.length; i++) {
            String ahead = textOf(0, i);
            boolean mark = i == 3 || i == 5 || i == 7;
            boolean line = i == 0 || i == 8 || i == 11 || i == 14;
            for (String other : new String[] {"7", ";", "track", "dwell", "cut", "x", "phases", "cyclf", "bffset", "nin"}) {
                boolean fits = alike(TOKENS[i], other) || mark && other.equals(";");
                if (!fits) {
                    Check.fault(ahead + other, 2, ahead.length(), linesIn(ahead));
                }
            }
            for (String other : new String[] {"phase", "cycle", "offset", "break"}) {
                if (!line) {
                    Check.fault(ahead + other, 2, ahead.length(), linesIn(ahead));
                }
            }
            for (String other : new String[] {"min", "halt", "split"}) {
                if (!mark) {
                    Check.fault(ahead + other, 2, ahead.length(), linesIn(ahead));
                }
            }
        }
    }

    private static void eachPlaceCutShort() {
        Doc.term(1, "(the end: the text's length)");
        for (int i = 1; i < TOKENS.length; i++) {
            String text = textOf(0, i);
            if (TOKENS[i - 1].equals(";")) {
                Check.due("load of whole lines", Check.of(text).fault(1), -1);
            } else {
                Check.fault(text, 2, text.length(), linesIn(text));
                Check.fault(text + "\n\n ", 2, text.length() + 3, linesIn(text));
                Check.fault(text.trim(), 2, text.length() - 1, linesIn(text));
            }
        }
    }

    private static void setOfAPhaseThatIsNotYet() {
        Doc.term(1, "3 a SET with a PHASE that there is not, as yet.");
        String one = "break 0 track 1 0 dwell 1 0 cut 0;";
        Check.due("a phase told ahead of it", Check.of("phase 0 0;" + one).brake(0, 0), 1);
        Check.fault(one + "phase 0 0;", 3, 14, 0);
        Check.fault("phase 0 0;break 0 track 2 0 dwell 0 0 cut 0;phase 0 0;", 3, 24, 1);
        Check.fault("phase 0 0;break 0 track 1 0 dwell 2 0 cut 0;phase 0 0;", 3, 34, 1);
        Check.fault(EIGHT + "break 0 track 256 0 dwell 0 0 cut 0;", 3, 94, 8);
        Check.fault(EIGHT + "break 0 track 0 0 dwell 999 0 cut 0;", 3, 104, 8);
    }

    private static void setOfTwoFoes() {
        Doc.term(1, "4 a NUMBER that can't be; a SET of which two are FOES.");
        Check.fault("phase 0 0;phase 0 0;break 0 track 3 0 dwell 0 0 cut 0;", 4, 34, 2);
        Check.fault("phase 0 0;phase 1 1;break 0 track 0 0 dwell 3 0 cut 0;", 4, 44, 2);
        Check.due("no foes", Check.of("phase 0 0;phase 1 0;break 0 track 3 0 dwell 3 0 cut 0;").brake(0, 2), 3);
    }

    private static void toldTwiceAMark() {
        Doc.term(1, "5 a MARK that it has, cycle, offset told already (at that WORD)");
        for (String word : new String[] {"min", "pass", "max", "yellow", "clear", "walk", "halt", "recall", "split", "rate"}) {
            Check.fault("phase 0 0 " + word + " 1 " + word, 5, 13 + word.length(), 0);
            String other = word.equals("min") ? "max" : "min";
            Check.fault("phase 0 0 " + word + " 1 " + other + " 1 " + word + " 99;", 5, 19 + word.length(), 0);
            Check.due("of another phase", Check.of("phase 0 0 " + word + " 1;phase 0 0 " + word + " 1;").many(0), 2);
        }
    }

    private static void toldTwiceTheClock() {
        Doc.term(1, "5 a MARK that it has, cycle, offset told already (at that WORD)");
        Check.fault("cycle 0;cycle 0;", 5, 8, 1);
        Check.fault("cycle 40;phase 0 0;cycle", 5, 19, 2);
        Check.fault("offset 0;offset 0;", 5, 9, 1);
        Check.fault("offset 3;cycle 40;offset 999;", 5, 18, 2);
        RingedLights x = Check.of("offset 3;cycle 40;");
        Check.due("each once", x.many(3), 3);
        Check.due("in a later text again", x, Check.loadInto(x, "cycle 20;offset 4;phase 0 0;"), 1, 0);
    }

    private static void toldTwiceABreak() {
        Doc.term(1, "a BREAK told already (at its NUMBER)");
        Check.fault("break 0" + NO_BREAK + "break 0", 5, 40, 1);
        Check.fault("break 1" + NO_BREAK + "break 01" + NO_BREAK, 5, 40, 1);
        Check.fault("break 1" + NO_BREAK + "break 0" + NO_BREAK + "break   1 x", 5, 76, 2);
        RingedLights x = Check.of("break 1" + NO_BREAK + "break 0" + NO_BREAK);
        Check.due("in a later text again", x, Check.loadInto(x, "break 0" + NO_BREAK + "break 1" + NO_BREAK), 0, 0);
    }

    private static void ninthPhase() {
        Doc.term(1, "6 a ninth PHASE (at that WORD).");
        Check.due("eight", Check.of(EIGHT).many(0), 8);
        Check.fault(EIGHT + "phase 0 0;", 6, 80, 8);
        Check.fault(EIGHT + "phase", 6, 80, 8);
        Check.fault(EIGHT + "cycle 40; phase 9 9", 6, 90, 9);
    }

    private static void leastKindOfOneToken() {
        Doc.term(1, "(of one TOKEN the least kind)");
        Check.fault("1000", 1, 0, 0);
        Check.fault("cycle 1000;", 1, 6, 0);
        Check.fault("break 0 track 1000", 1, 14, 0);
        Check.fault("phase 0 0;phase 0 0;break 0 track 7 0 dwell 0 0 cut 0;", 3, 34, 2);
        Check.fault(EIGHT + "break 0 track 511 0 dwell 0 0 cut 0;", 3, 94, 8);
        Check.fault("cycle 40;offset 3 cycle", 2, 18, 1);
        Check.fault(EIGHT + "cycle 40 phase", 2, 89, 8);
    }

    private static void firstAlongTheText() {
        Doc.term(1, "FAULTS, the first along the text");
        Check.fault("phase 9 9 $", 4, 6, 0);
        Check.fault("phase 0 9 1000", 4, 8, 0);
        Check.fault("phase 0 0 min 0 min 0 ?", 4, 14, 0);
        Check.fault("phase 0 0 min 1 min 0 ?", 5, 16, 0);
        Check.fault("cycle 7 7 ?", 4, 6, 0);
        Check.fault("cycle 20 ?", 1, 9, 0);
        Check.fault("break 0 track 1 99 ?", 3, 14, 0);
        Check.fault("break 5 cut ?", 4, 6, 0);
        Check.fault(EIGHT + "phase ?", 6, 80, 8);
        Check.fault("x ?", 2, 0, 0);
    }

    private static void lineOfAFault() {
        Doc.term(1, "The LINE of a FAULT: how many LINES ended ahead of it.");
        Check.fault("phase 0 0", 2, 9, 0);
        Check.fault("phase 0 0;x", 2, 10, 1);
        Check.fault("phase 0 0;\n\n;", 2, 12, 1);
        Check.fault("phase 0 0;phase 0 0;cycle 20;offset 0;break 0" + NO_BREAK + "phase 0 0 min", 2, 85, 5);
    }
}
