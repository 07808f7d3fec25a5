/**
 * The lights of a crossing, after the document in ../shared/DOC.md; the words in its capitals are used here in small
 * letters. Every row is made in a constructor and used again, since all calls of a run live in one room.
 */
public final class RingedLights {
    public static final int NONE = -1;

    private static final int MOST_PHASES = 8;
    private static final int MOST_BYTES = 700;
    private static final int MOST_QUEUE = 99;
    private static final int MOST_OFFSET = 239;
    private static final int LEAST_CYCLE = 20;
    private static final int MOST_CYCLE = 240;
    private static final int MOST_DWELL = 30;
    private static final int MOST_CUT = 20;
    private static final int MOST_KEPT = 3;
    private static final int MOST_EVENTS = 32;
    private static final int PAPER_TICKS = 600;

    private static final int MARKS = 10;
    private static final int MIN = 0;
    private static final int PASS = 1;
    private static final int MAX = 2;
    private static final int YELLOW_TICKS = 3;
    private static final int CLEAR = 4;
    private static final int WALK = 5;
    private static final int HALT = 6;
    private static final int RECALL = 7;
    private static final int SPLIT = 8;
    private static final int RATE = 9;
    private static final int[] LEAST_MARK = {1, 1, 1, 1, 0, 0, 0, 0, 0, 0};
    private static final int[] MOST_MARK = {30, 9, 60, 5, 4, 20, 20, 3, 60, 30};
    private static final int[] USUAL_MARK = {5, 2, 20, 3, 1, 0, 0, 0, 0, 0};

    private static final int GREEN = 0;
    private static final int YELLOW = 1;
    private static final int RED = 2;
    private static final int WAITS = 3;

    private static final int NOBODY_WALKS = 0;
    private static final int THEY_GO = 1;
    private static final int THEY_HALT = 2;

    private static final int TRAIN = 0;
    private static final int ENGINE = 1;
    private static final int BREAK_PARTS = 5;
    private static final int TRACK = 0;
    private static final int TRACK_TICKS = 1;
    private static final int DWELL = 2;
    private static final int DWELL_TICKS = 3;
    private static final int CUT = 4;

    private static final int TO_TRACK = 1;
    private static final int ON_TRACK = 2;
    private static final int TO_DWELL = 3;
    private static final int ON_DWELL = 4;

    private static final int BECAME_GREEN = 0;
    private static final int LEFT = 1;
    private static final int BREAK_BEGAN = 2;
    private static final int BREAK_ENDED = 3;
    private static final int FLASHED = 4;
    private static final int WAS_RESET = 5;

    private static final int GREEN_AIM = 0;
    private static final int WORST_AIM = 1;
    private static final int CLEAR_AIM = 2;
    private static final int STEP_AIM = 3;
    private static final int BREAK_AIM = 4;

    private static final int FINE = 0;
    private static final int CANNOT_BE = 1;
    private static final int NO_SUCH = 2;
    private static final int TOO_MANY = 3;
    private static final int IS_SO = 4;
    private static final int THERE_IS_NONE = 5;
    private static final int NEVER = 6;
    private static final int ARE_FOES = 7;
    private static final int IN_FLASH = 8;
    private static final int FAULTY = 9;

    private static final int NO_TOKEN = 1;
    private static final int MISPLACED = 2;
    private static final int UNKNOWN_PHASE = 3;
    private static final int BAD_NUMBER = 4;
    private static final int TOLD_TWICE = 5;
    private static final int NINTH_PHASE = 6;

    private final Reader reader = new Reader();
    private final Crossing now = new Crossing();
    private final Crossing spare = new Crossing();
    private final Crossing firstKept = new Crossing();
    private final Crossing secondKept = new Crossing();
    private final Crossing thirdKept = new Crossing();
    private int kept;
    private int taped;
    private boolean everRead;
    private int status;

    public RingedLights() {
        kept = 0;
        taped = 0;
        everRead = false;
        status = FINE;
    }

    public int status() {
        return status;
    }

    public int feed(int a, int b, int c, int d, int e) {
        if (taped + 20 > MOST_BYTES) {
            return NONE;
        }
        tapeFour(a);
        tapeFour(b);
        tapeFour(c);
        tapeFour(d);
        tapeFour(e);
        return taped;
    }

    public int load(int n) {
        if (n < 0 || n > taped) {
            return refuse(CANNOT_BE);
        }
        taped = 0;
        everRead = true;
        reader.readText(n);
        if (reader.fault != 0) {
            return refuse(FAULTY);
        }
        now.plan.takeFrom(reader.plan);
        now.beginAnew();
        return answer(now.plan.phases);
    }

    public int fault(int what) {
        if (!everRead) {
            return NONE;
        }
        switch (what) {
            case 0: return reader.fault;
            case 1: return reader.faultPlace;
            case 2: return reader.faultLine;
            default: return NONE;
        }
    }

    // ---- what there is

    public int many(int what) {
        switch (what) {
            case 0: return answer(now.plan.phases);
            case 1: return answer(now.latestTick);
            case 2: return answer(now.plan.cycle);
            case 3: return answer(now.plan.offset);
            case 4: return answer(now.clockAt);
            case 5: return answer(now.flash ? 1 : 0);
            case 6: return answer(now.stuck);
            case 7: return answer(now.begun);
            case 8: return answer(now.stage);
            case 9: return answer(now.stageTicks);
            case 10: return answer(now.wanted);
            case 11: return answer(kept);
            default: return refuse(CANNOT_BE);
        }
    }

    public int ring(int ring, int what) {
        if (what < 0 || what > 9) {
            return refuse(CANNOT_BE);
        }
        if (ring < 0 || ring > 1) {
            return refuse(NO_SUCH);
        }
        return answer(now.tellRing(ring == 0 ? now.ring0 : now.ring1, what));
    }

    public int phase(int phase, int what) {
        if (what < 0 || what > 8) {
            return refuse(CANNOT_BE);
        }
        if (!now.plan.hasPhase(phase)) {
            return refuse(NO_SUCH);
        }
        return answer(now.tellPhase(phase, what));
    }

    public int marked(int phase, int mark) {
        if (mark < 0 || mark >= MARKS) {
            return refuse(CANNOT_BE);
        }
        if (!now.plan.hasPhase(phase)) {
            return refuse(NO_SUCH);
        }
        return answer(now.plan.markOf(phase, mark));
    }

    public int brake(int brake, int what) {
        if (what < 0 || what > BREAK_PARTS) {
            return refuse(CANNOT_BE);
        }
        if (!isBreak(brake)) {
            return refuse(NO_SUCH);
        }
        if (what == BREAK_PARTS) {
            return answer(inSet(now.wanted, brake) ? 1 : 0);
        }
        return answer(now.plan.breakOf(brake, what));
    }

    public int sum(int what) {
        switch (what) {
            case 0: return answer(total(now.letGo));
            case 1: return answer(now.waited);
            case 2: return answer(total(now.queues));
            case 3: return answer(now.longestQueue());
            case 4: return answer(now.firstLongest());
            case 5: return answer(now.shownSet());
            default: return refuse(CANNOT_BE);
        }
    }

    public int event(int i, int what) {
        if (i < 0 || i >= MOST_EVENTS || what < 0 || what > 2) {
            return refuse(CANNOT_BE);
        }
        if (i >= now.log.noted) {
            return refuse(THERE_IS_NONE);
        }
        return answer(now.log.tell(i, what));
    }

    // ---- what is done

    public int mark(int phase, int mark, int much) {
        if (mark < 0 || mark >= MARKS || much < cell(LEAST_MARK, mark) || much > cell(MOST_MARK, mark)) {
            return refuse(CANNOT_BE);
        }
        if (!now.plan.hasPhase(phase)) {
            return refuse(NO_SUCH);
        }
        int had = now.plan.markOf(phase, mark);
        now.plan.putMark(phase, mark, much);
        return answer(had);
    }

    public int clock(int what, int much) {
        if (what < 0 || what > 1 || !(what == 0 ? isCycle(much) : isOffset(much))) {
            return refuse(CANNOT_BE);
        }
        int had = what == 0 ? now.plan.cycle : now.plan.offset;
        if (had == much) {
            return refuse(IS_SO);
        }
        if (what == 0) {
            now.takeCycle(much);
        } else {
            now.plan.offset = much;
        }
        return answer(had);
    }

    public boolean call(int phase, boolean foot) {
        if (!now.plan.hasPhase(phase)) {
            return deny(NO_SUCH);
        }
        if (inSet(foot ? now.footCalls : now.calls, phase)) {
            return deny(IS_SO);
        }
        if (foot && now.plan.markOf(phase, WALK) == 0) {
            return deny(THERE_IS_NONE);
        }
        if (now.flash) {
            return deny(IN_FLASH);
        }
        if (foot) {
            now.footCalls |= bit(phase);
        } else {
            now.takeCall(phase);
        }
        return grant();
    }

    public int come(int phase, int n) {
        if (n < 1 || n > MOST_QUEUE) {
            return refuse(CANNOT_BE);
        }
        if (!now.plan.hasPhase(phase)) {
            return refuse(NO_SUCH);
        }
        int queue = cell(now.queues, phase) + n;
        if (queue > MOST_QUEUE) {
            return refuse(TOO_MANY);
        }
        now.putQueue(phase, queue);
        return answer(queue);
    }

    public boolean ask(int brake) {
        if (!isBreak(brake)) {
            return deny(NO_SUCH);
        }
        if (inSet(now.wanted, brake)) {
            return deny(IS_SO);
        }
        now.wanted |= bit(brake);
        return grant();
    }

    public boolean let(int brake) {
        if (!isBreak(brake)) {
            return deny(NO_SUCH);
        }
        if (!inSet(now.wanted, brake)) {
            return deny(IS_SO);
        }
        now.wanted &= ~bit(brake);
        return grant();
    }

    public boolean brakes(int brake, int track, int ticks, int dwell, int least, int cut) {
        if (!now.plan.hasAll(track) || !now.plan.hasAll(dwell) || !isDwell(ticks) || !isDwell(least)
                || cut < 0 || cut > MOST_CUT) {
            return deny(CANNOT_BE);
        }
        if (!isBreak(brake)) {
            return deny(NO_SUCH);
        }
        if (now.begun == brake) {
            return deny(IS_SO);
        }
        if (now.plan.holdsFoes(track) || now.plan.holdsFoes(dwell)) {
            return deny(ARE_FOES);
        }
        now.plan.putBreak(brake, TRACK, track);
        now.plan.putBreak(brake, TRACK_TICKS, ticks);
        now.plan.putBreak(brake, DWELL, dwell);
        now.plan.putBreak(brake, DWELL_TICKS, least);
        now.plan.putBreak(brake, CUT, cut);
        return grant();
    }

    public boolean stick(int phase, boolean sticks) {
        if (!now.plan.hasPhase(phase)) {
            return deny(NO_SUCH);
        }
        if (inSet(now.stuck, phase) == sticks) {
            return deny(IS_SO);
        }
        now.stuck = withBit(now.stuck, phase, sticks);
        return grant();
    }

    public boolean reset() {
        if (!now.flash) {
            return deny(THERE_IS_NONE);
        }
        now.flash = false;
        now.startRings();
        now.log.note(WAS_RESET, now.latestTick, NONE);
        return grant();
    }

    public int tick(int many) {
        if (many < 1 || many > 300) {
            return refuse(CANNOT_BE);
        }
        now.passTicks(many);
        return answer(now.latestTick);
    }

    public int run(int ticks, int seed) {
        if (ticks < 1 || ticks > 300 || seed < 0 || seed > 9999) {
            return refuse(CANNOT_BE);
        }
        int ahead = total(now.letGo);
        int drawn = seed;
        for (int i = 0; i < ticks; i++) {
            drawn = now.takeComers(drawn);
            now.passTick();
        }
        return answer(total(now.letGo) - ahead);
    }

    public int keep() {
        if (kept >= MOST_KEPT) {
            return refuse(TOO_MANY);
        }
        keptAt(kept).takeFrom(now);
        kept++;
        return answer(kept);
    }

    public int back() {
        if (kept < 1) {
            return refuse(THERE_IS_NONE);
        }
        kept--;
        now.takeFrom(keptAt(kept));
        return answer(kept);
    }

    // ---- who goes with whom

    public int foes(int phase, int other) {
        if (!now.plan.hasPhase(phase) || !now.plan.hasPhase(other)) {
            return refuse(NO_SUCH);
        }
        return answer(inSet(now.plan.foesOf(phase), other) ? 1 : 0);
    }

    public int sets(int what) {
        if (what < 0 || what > 1) {
            return refuse(CANNOT_BE);
        }
        int sets = 0;
        int best = 0;
        int most = -1;
        for (int set = 1; set <= now.plan.allSet(); set++) {
            if (now.plan.isFull(set)) {
                sets++;
                int queue = now.queueOf(set);
                if (queue > most) {
                    most = queue;
                    best = set;
                }
            }
        }
        return answer(what == 0 ? sets : best);
    }

    // ---- on paper

    public int when(int phase) {
        if (!now.plan.hasPhase(phase)) {
            return refuse(NO_SUCH);
        }
        spare.takeFrom(now);
        return ticksUntil(GREEN_AIM, phase);
    }

    public int worst(int phase) {
        if (!now.plan.hasPhase(phase)) {
            return refuse(NO_SUCH);
        }
        spare.takeFrom(now);
        spare.takeCall(phase);
        return ticksUntil(WORST_AIM, phase);
    }

    public int cleared() {
        spare.takeFrom(now);
        return ticksUntil(CLEAR_AIM, NONE);
    }

    public int instep() {
        if (now.plan.cycle == 0) {
            return refuse(THERE_IS_NONE);
        }
        spare.takeFrom(now);
        return ticksUntil(STEP_AIM, NONE);
    }

    public int broken(int brake) {
        if (!isBreak(brake)) {
            return refuse(NO_SUCH);
        }
        spare.takeFrom(now);
        spare.wanted |= bit(brake);
        return ticksUntil(BREAK_AIM, brake);
    }

    public int paper(int n, int what) {
        if (n < 1 || n > 300 || what < 0 || what > 1) {
            return refuse(CANNOT_BE);
        }
        spare.takeFrom(now);
        spare.passTicks(n);
        if (what == 0) {
            return answer(total(spare.letGo) - total(now.letGo));
        }
        return answer(spare.waited - now.waited);
    }

    public int bestMax(int phase, int n) {
        if (n < 1 || n > 100) {
            return refuse(CANNOT_BE);
        }
        if (!now.plan.hasPhase(phase)) {
            return refuse(NO_SUCH);
        }
        int best = NONE;
        int least = 0;
        for (int max = cell(LEAST_MARK, MAX); max <= cell(MOST_MARK, MAX); max++) {
            spare.takeFrom(now);
            spare.plan.putMark(phase, MAX, max);
            spare.passTicks(n);
            if (best == NONE || spare.waited < least) {
                best = max;
                least = spare.waited;
            }
        }
        return answer(best);
    }

    public int cheapest(int n) {
        if (n < 1 || n > 100) {
            return refuse(CANNOT_BE);
        }
        if (now.plan.phases == 0) {
            return refuse(THERE_IS_NONE);
        }
        int best = NONE;
        int least = 0;
        for (int phase = 0; phase < now.plan.phases; phase++) {
            spare.takeFrom(now);
            spare.putQueue(phase, cell(spare.queues, phase) + 10);
            spare.passTicks(n);
            if (best == NONE || spare.waited < least) {
                best = phase;
                least = spare.waited;
            }
        }
        return answer(best);
    }

    // ---- how calls end

    private int answer(int told) {
        status = FINE;
        return told;
    }

    private int refuse(int why) {
        status = why;
        return NONE;
    }

    private boolean grant() {
        status = FINE;
        return true;
    }

    private boolean deny(int why) {
        status = why;
        return false;
    }

    // ---- help for calls

    private void tapeFour(int four) {
        for (int shift = 24; shift >= 0; shift -= 8) {
            reader.putByte(taped, four >> shift);
            taped++;
        }
    }

    private Crossing keptAt(int i) {
        if (i == 0) {
            return firstKept;
        }
        return i == 1 ? secondKept : thirdKept;
    }

    private int ticksUntil(int aim, int which) {
        for (int ticks = 0; ticks <= PAPER_TICKS; ticks++) {
            if (spare.hasReached(aim, which)) {
                return answer(ticks);
            }
            if (aim == WORST_AIM) {
                spare.callOthers(which);
            }
            spare.passTick();
        }
        return refuse(NEVER);
    }

    private static boolean isBreak(int brake) {
        return brake == TRAIN || brake == ENGINE;
    }

    private static boolean isCycle(int ticks) {
        return ticks == 0 || ticks >= LEAST_CYCLE && ticks <= MOST_CYCLE;
    }

    private static boolean isOffset(int ticks) {
        return ticks >= 0 && ticks <= MOST_OFFSET;
    }

    private static boolean isDwell(int ticks) {
        return ticks >= 0 && ticks <= MOST_DWELL;
    }

    // ---- rows and sets

    private static int cell(int[] row, int i) {
        return i >= 0 && i < row.length ? row[i] : 0;
    }

    private static void put(int[] row, int i, int much) {
        if (i >= 0 && i < row.length) {
            row[i] = much;
        }
    }

    private static void copyRow(int[] from, int[] into) {
        System.arraycopy(from, 0, into, 0, Math.min(from.length, into.length));
    }

    private static void fillRow(int[] row, int much) {
        for (int i = 0; i < row.length; i++) {
            row[i] = much;
        }
    }

    private static int total(int[] row) {
        int total = 0;
        for (int i = 0; i < row.length; i++) {
            total += row[i];
        }
        return total;
    }

    private static int bit(int i) {
        return i < 0 || i >= MOST_PHASES ? 0 : 1 << i;
    }

    private static int withBit(int set, int i, boolean has) {
        return has ? set | bit(i) : set & ~bit(i);
    }

    private static boolean inSet(int set, int i) {
        return i >= 0 && i < MOST_PHASES && (set >> i & 1) != 0;
    }

    private static int firstIn(int set) {
        for (int i = 0; i < MOST_PHASES; i++) {
            if ((set >> i & 1) != 0) {
                return i;
            }
        }
        return NONE;
    }

    /** What a crossing is: phases with their marks, the round of its clock, its breaks. */
    static final class Plan {
        int phases;
        int cycle;
        int offset;
        final int[] ringOf = new int[MOST_PHASES];
        final int[] sideOf = new int[MOST_PHASES];
        final int[] foes = new int[MOST_PHASES];
        final int[] marks = new int[MOST_PHASES * MARKS];
        final int[] breaks = new int[2 * BREAK_PARTS];
        /** The phases of ring 0 on side 0, of ring 0 on side 1, of ring 1 on side 0, of ring 1 on side 1. */
        final int[] parts = new int[4];
        /** What the marks say of each tick, as sets, so that a tick need not look at each phase. */
        int recalled;
        int footRecalled;
        int walked;

        void wipe() {
            phases = 0;
            recalled = 0;
            footRecalled = 0;
            walked = 0;
            cycle = 0;
            offset = 0;
            fillRow(ringOf, 0);
            fillRow(sideOf, 0);
            fillRow(foes, 0);
            fillRow(marks, 0);
            fillRow(breaks, 0);
            fillRow(parts, 0);
        }

        void takeFrom(Plan other) {
            phases = other.phases;
            cycle = other.cycle;
            offset = other.offset;
            recalled = other.recalled;
            footRecalled = other.footRecalled;
            walked = other.walked;
            copyRow(other.ringOf, ringOf);
            copyRow(other.sideOf, sideOf);
            copyRow(other.foes, foes);
            copyRow(other.marks, marks);
            copyRow(other.breaks, breaks);
            copyRow(other.parts, parts);
        }

        void addPhase(int itsRing, int itsSide) {
            for (int i = 0; i < phases; i++) {
                if (cell(ringOf, i) == itsRing || cell(sideOf, i) != itsSide) {
                    put(foes, i, foesOf(i) | bit(phases));
                    put(foes, phases, foesOf(phases) | bit(i));
                }
            }
            put(ringOf, phases, itsRing);
            put(sideOf, phases, itsSide);
            put(parts, itsRing * 2 + itsSide, partOf(itsRing, itsSide) | bit(phases));
            for (int i = 0; i < MARKS; i++) {
                putMark(phases, i, cell(USUAL_MARK, i));
            }
            phases++;
        }

        boolean hasPhase(int phase) {
            return phase >= 0 && phase < phases;
        }

        int allSet() {
            return (1 << phases) - 1;
        }

        boolean hasAll(int set) {
            return set >= 0 && set <= allSet();
        }

        int markOf(int phase, int kind) {
            int i = phase * MARKS + kind;
            return i >= 0 && i < marks.length ? marks[i] : 0;
        }

        void putMark(int phase, int kind, int much) {
            put(marks, phase * MARKS + kind, much);
            if (kind == RECALL) {
                recalled = withBit(recalled, phase, much != 0);
                footRecalled = withBit(footRecalled, phase, much == 3);
            } else if (kind == WALK) {
                walked = withBit(walked, phase, much > 0);
            }
        }

        int breakOf(int which, int part) {
            return cell(breaks, which * BREAK_PARTS + part);
        }

        void putBreak(int which, int part, int much) {
            put(breaks, which * BREAK_PARTS + part, much);
        }

        int partOf(int itsRing, int itsSide) {
            int i = itsRing * 2 + itsSide;
            return i >= 0 && i < parts.length ? parts[i] : 0;
        }

        int sideSet(int side) {
            return partOf(0, side) | partOf(1, side);
        }

        int foesOf(int phase) {
            return cell(foes, phase);
        }

        boolean holdsFoes(int set) {
            return firstWithFoe(set) != NONE;
        }

        int firstWithFoe(int set) {
            for (int i = 0; i < phases; i++) {
                if (inSet(set, i) && (foesOf(i) & set) != 0) {
                    return i;
                }
            }
            return NONE;
        }

        /** No two in the set are foes, and each phase out of it has a foe in it. */
        boolean isFull(int set) {
            for (int i = 0; i < phases; i++) {
                boolean inside = inSet(set, i);
                if (inside == ((foesOf(i) & set) != 0)) {
                    return false;
                }
            }
            return true;
        }

        int firstOfRow(int itsRing) {
            int near = partOf(itsRing, 0);
            return firstIn(near != 0 ? near : partOf(itsRing, 1));
        }

        int endOf(int phase) {
            int itsRing = cell(ringOf, phase);
            int itsSide = cell(sideOf, phase);
            int upTo = partOf(itsRing, itsSide) & (bit(phase) * 2 - 1);
            if (itsSide == 1) {
                upTo |= partOf(itsRing, 0);
            }
            int end = 0;
            for (int i = 0; i < phases; i++) {
                if (inSet(upTo, i)) {
                    end += markOf(i, SPLIT);
                }
            }
            return end;
        }
    }

    /** Where one ring stands. */
    static final class Ring {
        final int number;
        int at = NONE;
        int lamp = WAITS;
        int age;
        int to = NONE;
        int gap;
        int pressed;
        int walking;
        int halted;

        Ring(int number) {
            this.number = number;
        }

        void takeFrom(Ring other) {
            at = other.at;
            lamp = other.lamp;
            age = other.age;
            to = other.to;
            gap = other.gap;
            pressed = other.pressed;
            walking = other.walking;
            halted = other.halted;
        }

        boolean holds() {
            return at != NONE;
        }

        boolean isGreen() {
            return at != NONE && lamp == GREEN;
        }

        void waitFor(int phase) {
            at = NONE;
            lamp = WAITS;
            age = 0;
            to = phase;
        }

        void turnGreen(int phase, boolean onFoot) {
            at = phase;
            lamp = GREEN;
            age = 0;
            to = NONE;
            gap = 0;
            pressed = 0;
            halted = 0;
            walking = onFoot ? THEY_GO : NOBODY_WALKS;
        }

        void turnYellow(int phase) {
            lamp = YELLOW;
            age = 0;
            to = phase;
            walking = NOBODY_WALKS;
        }

        void growDark(int yellowTicks, int clearTicks) {
            if (lamp == YELLOW && age >= yellowTicks) {
                lamp = RED;
                age = 0;
            }
            if (lamp == RED && age >= clearTicks) {
                waitFor(to);
            }
        }

        void walkOn(int walkTicks, int haltTicks) {
            if (walking == THEY_HALT) {
                halted++;
            }
            if (walking == THEY_GO && age >= walkTicks) {
                walking = THEY_HALT;
            }
            if (walking == THEY_HALT && halted >= haltTicks) {
                walking = NOBODY_WALKS;
            }
        }
    }

    /** The latest events, in rows that go round. */
    static final class Log {
        final int[] kinds = new int[MOST_EVENTS];
        final int[] ticks = new int[MOST_EVENTS];
        final int[] whiches = new int[MOST_EVENTS];
        int noted;
        int following;

        void wipe() {
            noted = 0;
            following = 0;
        }

        void takeFrom(Log other) {
            noted = other.noted;
            following = other.following;
            copyRow(other.kinds, kinds);
            copyRow(other.ticks, ticks);
            copyRow(other.whiches, whiches);
        }

        void note(int kind, int itsTick, int which) {
            if (following >= 0 && following < MOST_EVENTS) {
                kinds[following] = kind;
                ticks[following] = itsTick;
                whiches[following] = which;
            }
            following = (following + 1) % MOST_EVENTS;
            noted = Math.min(noted + 1, MOST_EVENTS);
        }

        int tell(int i, int what) {
            int place = Math.floorMod(following - 1 - i, MOST_EVENTS);
            switch (what) {
                case 0: return cell(kinds, place);
                case 1: return cell(ticks, place);
                default: return cell(whiches, place);
            }
        }
    }

    /** A crossing as it stands behind its latest tick; what is on paper is another one of these. */
    static final class Crossing {
        final Plan plan = new Plan();
        final Ring ring0 = new Ring(0);
        final Ring ring1 = new Ring(1);
        final Log log = new Log();
        final int[] queues = new int[MOST_PHASES];
        final int[] letGo = new int[MOST_PHASES];
        int queued;
        int calls;
        int footCalls;
        /** Phases called while they were green: that keeps their gap at 0 in one tick, and waits no longer. */
        int greenCalls;
        int stuck;
        int wanted;
        int latestTick;
        int clockAt;
        int waited;
        boolean flash;
        int begun = NONE;
        int stage;
        int stageTicks;

        void takeFrom(Crossing other) {
            plan.takeFrom(other.plan);
            ring0.takeFrom(other.ring0);
            ring1.takeFrom(other.ring1);
            log.takeFrom(other.log);
            copyRow(other.queues, queues);
            copyRow(other.letGo, letGo);
            queued = other.queued;
            calls = other.calls;
            footCalls = other.footCalls;
            greenCalls = other.greenCalls;
            stuck = other.stuck;
            wanted = other.wanted;
            latestTick = other.latestTick;
            clockAt = other.clockAt;
            waited = other.waited;
            flash = other.flash;
            begun = other.begun;
            stage = other.stage;
            stageTicks = other.stageTicks;
        }

        void beginAnew() {
            log.wipe();
            fillRow(queues, 0);
            fillRow(letGo, 0);
            queued = 0;
            calls = 0;
            footCalls = 0;
            greenCalls = 0;
            stuck = 0;
            wanted = 0;
            latestTick = 0;
            clockAt = 0;
            waited = 0;
            flash = false;
            dropBreak();
            startRings();
        }

        void startRings() {
            int side = (plan.partOf(0, 0) | plan.partOf(1, 0)) != 0 ? 0 : 1;
            ring0.waitFor(firstIn(plan.partOf(0, side)));
            ring1.waitFor(firstIn(plan.partOf(1, side)));
        }

        // ---- what is asked of it

        int tellRing(Ring ring, int what) {
            if (what > 3 && !ring.isGreen()) {
                return 0;
            }
            switch (what) {
                case 0: return ring.at;
                case 1: return ring.lamp;
                case 2: return ring.age;
                case 3: return ring.to;
                case 4: return ring.gap;
                case 5: return ring.pressed;
                case 6: return ring.walking;
                case 7: return ring.halted;
                case 8: return isDone(ring) ? 1 : 0;
                default: return isForced(ring.at) ? 1 : 0;
            }
        }

        int tellPhase(int phase, int what) {
            switch (what) {
                case 0: return cell(plan.ringOf, phase);
                case 1: return cell(plan.sideOf, phase);
                case 2: return lampOf(phase);
                case 3: return cell(queues, phase);
                case 4: return inSet(calledSet(), phase) ? 1 : 0;
                case 5: return inSet(onFootSet(), phase) ? 1 : 0;
                case 6: return cell(letGo, phase);
                case 7: return plan.endOf(phase);
                default: return plan.foesOf(phase);
            }
        }

        int lampOf(int phase) {
            Ring ring = cell(plan.ringOf, phase) == 0 ? ring0 : ring1;
            if (inSet(stuck, phase) || ring.at == phase && ring.lamp == GREEN) {
                return 2;
            }
            return ring.at == phase && ring.lamp == YELLOW ? 1 : 0;
        }

        boolean isGreenAt(int phase) {
            return ring0.isGreen() && ring0.at == phase || ring1.isGreen() && ring1.at == phase;
        }

        int longestQueue() {
            int most = 0;
            for (int i = 0; i < plan.phases; i++) {
                most = Math.max(most, cell(queues, i));
            }
            return most;
        }

        int firstLongest() {
            int most = longestQueue();
            for (int i = 0; i < plan.phases && most > 0; i++) {
                if (cell(queues, i) == most) {
                    return i;
                }
            }
            return NONE;
        }

        int queueOf(int set) {
            int queue = 0;
            for (int i = 0; i < plan.phases; i++) {
                if (inSet(set, i)) {
                    queue += cell(queues, i);
                }
            }
            return queue;
        }

        int calledSet() {
            return calls | queued | plan.recalled;
        }

        int onFootSet() {
            return footCalls & plan.walked | plan.footRecalled;
        }

        int askedSet() {
            return calledSet() | onFootSet();
        }

        int shownSet() {
            return stuck | shownBy(ring0) | shownBy(ring1);
        }

        int shownBy(Ring ring) {
            return ring.lamp == GREEN || ring.lamp == YELLOW ? bit(ring.at) : 0;
        }

        boolean hasReached(int aim, int which) {
            switch (aim) {
                case CLEAR_AIM: return total(queues) == 0;
                case STEP_AIM: return aheadOfClock() == 0;
                case BREAK_AIM: return begun == which && (stage == ON_TRACK || stage == ON_DWELL);
                default: return isGreenAt(which);
            }
        }

        // ---- what comes to it

        void putQueue(int phase, int much) {
            put(queues, phase, much);
            queued = withBit(queued, phase, much > 0);
        }

        void takeCall(int phase) {
            if (isGreenAt(phase)) {
                greenCalls |= bit(phase);
            } else {
                calls |= bit(phase);
            }
        }

        void callOthers(int phase) {
            for (int i = 0; i < plan.phases; i++) {
                if (i != phase) {
                    takeCall(i);
                }
            }
        }

        void takeCycle(int cycle) {
            plan.cycle = cycle;
            clockAt = cycle > 0 ? Math.floorMod(clockAt, cycle) : 0;
        }

        /** A phase without a rate draws too: each draw moves the next one. */
        int takeComers(int seed) {
            long drawn = seed;
            for (int i = 0; i < plan.phases; i++) {
                drawn = (drawn * 9301 + 49297) % 233280;
                int queue = cell(queues, i);
                if (drawn * 60 / 233280 < plan.markOf(i, RATE) && queue < MOST_QUEUE) {
                    putQueue(i, queue + 1);
                }
            }
            return (int) drawn;
        }

        // ---- a tick

        void passTicks(int many) {
            for (int i = 0; i < many; i++) {
                passTick();
            }
        }

        void passTick() {
            latestTick++;
            moveClock();
            if (!flash) {
                ageRing(ring0);
                ageRing(ring1);
                greenCalls = 0;
                moveBreaks();
                if (begun == NONE) {
                    moveOn();
                }
                turnGreen(ring0, ring1);
                turnGreen(ring1, ring0);
            }
            watch();
            waited += total(queues);
        }

        void moveClock() {
            int cycle = plan.cycle;
            if (cycle <= 0) {
                return;
            }
            clockAt = Math.floorMod(clockAt + 1, cycle);
            int ahead = aheadOfClock();
            if (ahead != 0 && latestTick % 4 == 0) {
                clockAt = Math.floorMod(ahead <= cycle / 2 ? clockAt + 1 : clockAt - 1, cycle);
            }
        }

        int aheadOfClock() {
            int cycle = plan.cycle;
            if (cycle <= 0) {
                return 0;
            }
            int due = Math.floorMod(latestTick - plan.offset, cycle);
            return Math.floorMod(due - clockAt, cycle);
        }

        boolean isForced(int phase) {
            int cycle = plan.cycle;
            return cycle > 0 && Math.floorMod(clockAt - plan.endOf(phase), cycle) < cycle / 2;
        }

        void ageRing(Ring ring) {
            if (!ring.holds()) {
                return;
            }
            ring.age++;
            if (ring.isGreen()) {
                ageGreen(ring);
            } else {
                ring.growDark(plan.markOf(ring.at, YELLOW_TICKS), plan.markOf(ring.at, CLEAR));
            }
        }

        void ageGreen(Ring ring) {
            int phase = ring.at;
            int queue = cell(queues, phase);
            ring.gap = queue > 0 || inSet(greenCalls, phase) ? 0 : ring.gap + 1;
            if (queue > 0) {
                putQueue(phase, queue - 1);
                put(letGo, phase, cell(letGo, phase) + 1);
            }
            if ((plan.foesOf(phase) & askedSet()) != 0) {
                ring.pressed++;
            }
            ring.walkOn(plan.markOf(phase, WALK), plan.markOf(phase, HALT));
        }

        void goTo(Ring ring, int to) {
            if (ring.holds()) {
                log.note(LEFT, latestTick, ring.at);
                ring.turnYellow(to);
            } else {
                ring.to = to;
            }
        }

        void turnGreen(Ring ring, Ring other) {
            int phase = ring.to;
            if (ring.lamp != WAITS || phase == NONE || inSet(plan.foesOf(phase), other.at)) {
                return;
            }
            ring.turnGreen(phase, inSet(onFootSet(), phase));
            calls &= ~bit(phase);
            footCalls &= ~bit(phase);
            log.note(BECAME_GREEN, latestTick, phase);
        }

        void watch() {
            int first = flash ? NONE : plan.firstWithFoe(shownSet());
            if (first == NONE) {
                return;
            }
            flash = true;
            ring0.waitFor(NONE);
            ring1.waitFor(NONE);
            dropBreak();
            log.note(FLASHED, latestTick, first);
        }

        // ---- who goes next

        boolean isDone(Ring ring) {
            if (!ring.isGreen() || ring.age < plan.markOf(ring.at, MIN) || ring.walking != NOBODY_WALKS) {
                return false;
            }
            boolean passed = ring.gap >= plan.markOf(ring.at, PASS);
            if (plan.cycle > 0) {
                return isForced(ring.at) || passed && ring.at != plan.firstOfRow(ring.number);
            }
            return passed && plan.markOf(ring.at, RECALL) != 2 || ring.pressed >= plan.markOf(ring.at, MAX);
        }

        void moveOn() {
            int asked = askedSet();
            boolean done0 = isDone(ring0);
            boolean done1 = isDone(ring1);
            boolean left0 = done0 && leaveToNext(ring0, asked);
            boolean left1 = done1 && leaveToNext(ring1, asked);
            if (left0 || left1 || ring0.holds() != done0 || ring1.holds() != done1) {
                return;
            }
            if (ring0.holds() || ring1.holds()) {
                moveTogether(asked);
            }
        }

        boolean leaveToNext(Ring ring, int asked) {
            int upTo = bit(ring.at) * 2 - 1;
            int next = firstIn(plan.partOf(ring.number, cell(plan.sideOf, ring.at)) & asked & ~upTo);
            if (next == NONE) {
                return false;
            }
            goTo(ring, next);
            return true;
        }

        void moveTogether(int asked) {
            int side = cell(plan.sideOf, ring0.holds() ? ring0.at : ring1.at);
            int other = 1 - side;
            if ((plan.sideSet(other) & asked) != 0) {
                crossOver(ring0, plan.partOf(0, other), asked);
                crossOver(ring1, plan.partOf(1, other), asked);
            } else {
                turnBack(ring0, plan.partOf(0, side) & asked);
                turnBack(ring1, plan.partOf(1, side) & asked);
            }
        }

        void crossOver(Ring ring, int part, int asked) {
            goTo(ring, firstIn((part & asked) != 0 ? part & asked : part));
        }

        void turnBack(Ring ring, int askedPart) {
            int first = firstIn(askedPart & ~bit(ring.at));
            if (first != NONE) {
                goTo(ring, first);
            }
        }

        // ---- breaks

        void moveBreaks() {
            if (begun == NONE) {
                beginWanted();
            } else if (begun == ENGINE && inSet(wanted, TRAIN)) {
                log.note(BREAK_ENDED, latestTick, ENGINE);
                beginBreak(TRAIN);
            }
            switch (stage) {
                case TO_TRACK:
                    seek(plan.breakOf(begun, TRACK));
                    break;
                case ON_TRACK:
                    stayOnTrack();
                    break;
                case TO_DWELL:
                    seek(plan.breakOf(begun, DWELL));
                    break;
                case ON_DWELL:
                    stayOnDwell();
                    break;
                default:
                    break;
            }
        }

        void beginWanted() {
            if (inSet(wanted, TRAIN)) {
                beginBreak(TRAIN);
            } else if (inSet(wanted, ENGINE)) {
                beginBreak(ENGINE);
            }
        }

        void beginBreak(int which) {
            begun = which;
            stage = plan.breakOf(which, TRACK) != 0 ? TO_TRACK : TO_DWELL;
            stageTicks = 0;
            log.note(BREAK_BEGAN, latestTick, which);
        }

        void dropBreak() {
            begun = NONE;
            stage = 0;
            stageTicks = 0;
        }

        void seek(int goal) {
            int goal0 = firstIn(goal & (plan.partOf(0, 0) | plan.partOf(0, 1)));
            int goal1 = firstIn(goal & (plan.partOf(1, 0) | plan.partOf(1, 1)));
            steer(ring0, goal0);
            steer(ring1, goal1);
            turnGreen(ring0, ring1);
            turnGreen(ring1, ring0);
            if (isThere(ring0, goal0) && isThere(ring1, goal1)) {
                stage++;
                stageTicks = 0;
            }
        }

        void steer(Ring ring, int goal) {
            if (!ring.isGreen()) {
                ring.to = goal;
                return;
            }
            if (ring.at == goal) {
                return;
            }
            if (ring.walking == THEY_GO) {
                ring.walking = THEY_HALT;
                ring.halted = 0;
            }
            if (ring.walking == NOBODY_WALKS || ring.halted >= plan.breakOf(begun, CUT)) {
                goTo(ring, goal);
            }
        }

        boolean isThere(Ring ring, int goal) {
            return ring.at == goal && (goal == NONE || ring.lamp == GREEN);
        }

        void stayOnTrack() {
            stageTicks++;
            if (stageTicks >= plan.breakOf(begun, TRACK_TICKS)) {
                stage = TO_DWELL;
                stageTicks = 0;
            }
        }

        void stayOnDwell() {
            stageTicks++;
            if (stageTicks >= plan.breakOf(begun, DWELL_TICKS) && !inSet(wanted, begun)) {
                log.note(BREAK_ENDED, latestTick, begun);
                dropBreak();
                resume();
            }
        }

        void resume() {
            if (!ring0.isGreen() && !ring1.isGreen()) {
                startRings();
                return;
            }
            int side = cell(plan.sideOf, ring0.isGreen() ? ring0.at : ring1.at);
            if (!ring0.holds()) {
                ring0.to = firstIn(plan.partOf(0, side));
            }
            if (!ring1.holds()) {
                ring1.to = firstIn(plan.partOf(1, side));
            }
        }
    }

    /** Has the tape, reads the text of a crossing off it, and stops at its first fault. */
    static final class Reader {
        private static final int END = 0;
        private static final int WORD = 1;
        private static final int NUMBER = 2;
        private static final int SIGN = 3;
        private static final int BLANK = 4;
        private static final int OTHER = 5;

        private static final int CYCLE_TOLD = 4;
        private static final int OFFSET_TOLD = 8;

        final byte[] tape = new byte[MOST_BYTES];
        final Plan plan = new Plan();
        int end;
        int place;
        int start;
        int kind;
        int number;
        int lines;
        int told;
        int fault;
        int faultPlace;
        int faultLine;

        void putByte(int i, int much) {
            if (i >= 0 && i < tape.length) {
                tape[i] = (byte) much;
            }
        }

        void readText(int length) {
            plan.wipe();
            end = Math.min(length, tape.length);
            place = 0;
            lines = 0;
            told = 0;
            fault = 0;
            faultPlace = NONE;
            faultLine = NONE;
            step();
            for (int i = 0; i <= MOST_BYTES && fault == 0 && kind != END; i++) {
                if (isWord("phase")) {
                    readPhase();
                } else if (isWord("cycle")) {
                    readCycle();
                } else if (isWord("offset")) {
                    readOffset();
                } else if (isWord("break")) {
                    readBreak();
                } else {
                    fail(MISPLACED);
                }
            }
        }

        void fail(int why) {
            if (fault == 0) {
                fault = why;
                faultPlace = start;
                faultLine = lines;
            }
        }

        // ---- tokens

        void step() {
            start = behind(place, BLANK);
            kind = kindAt(start);
            place = kind == WORD || kind == NUMBER ? behind(start, kind) : start + 1;
            if (kind == OTHER || kind == NUMBER && place - start > 3) {
                fail(NO_TOKEN);
            }
            number = 0;
            for (int i = start; kind == NUMBER && i < place && i < start + 3; i++) {
                number = number * 10 + signAt(i) - '0';
            }
        }

        /** The first place, from one on, that has no sign of this kind. */
        int behind(int from, int ofKind) {
            int i = from;
            while (i < end && kindAt(i) == ofKind) {
                i++;
            }
            return i;
        }

        int kindAt(int i) {
            if (i < 0 || i >= end || i >= tape.length) {
                return END;
            }
            int sign = tape[i];
            if (sign >= 'a' && sign <= 'z') {
                return WORD;
            }
            if (sign >= '0' && sign <= '9') {
                return NUMBER;
            }
            if (sign == 10 || sign == 32) {
                return BLANK;
            }
            return sign == ';' ? SIGN : OTHER;
        }

        int signAt(int i) {
            return i >= 0 && i < tape.length ? tape[i] : NONE;
        }

        boolean isWord(String word) {
            if (kind != WORD || place - start != word.length()) {
                return false;
            }
            for (int i = 0; i < word.length(); i++) {
                if (signAt(start + i) != word.charAt(i)) {
                    return false;
                }
            }
            return true;
        }

        // ---- lines

        void endLine() {
            if (fault != 0) {
                return;
            }
            if (kind != SIGN) {
                fail(MISPLACED);
                return;
            }
            lines++;
            step();
        }

        void takeWord(String word) {
            if (fault != 0) {
                return;
            }
            if (!isWord(word)) {
                fail(MISPLACED);
                return;
            }
            step();
        }

        /** A number is looked at whole before the next token is, since the first fault counts. */
        int takeNumber(int least, int most) {
            if (fault != 0) {
                return 0;
            }
            if (kind != NUMBER) {
                fail(MISPLACED);
                return 0;
            }
            int taken = number;
            if (taken < least || taken > most) {
                fail(BAD_NUMBER);
                return 0;
            }
            step();
            return taken;
        }

        int takeSet() {
            if (fault == 0 && kind == NUMBER) {
                if (!plan.hasAll(number)) {
                    fail(UNKNOWN_PHASE);
                } else if (plan.holdsFoes(number)) {
                    fail(BAD_NUMBER);
                }
            }
            return takeNumber(0, 255);
        }

        void readPhase() {
            if (plan.phases >= MOST_PHASES) {
                fail(NINTH_PHASE);
                return;
            }
            step();
            int itsRing = takeNumber(0, 1);
            int itsSide = takeNumber(0, 1);
            if (fault == 0) {
                plan.addPhase(itsRing, itsSide);
                readMarks(plan.phases - 1);
            }
            endLine();
        }

        void readMarks(int phase) {
            int had = 0;
            for (int i = 0; i <= MARKS && fault == 0 && kind == WORD; i++) {
                int which = markHere();
                if (which == NONE) {
                    fail(MISPLACED);
                } else if ((had >> which & 1) != 0) {
                    fail(TOLD_TWICE);
                } else {
                    had |= 1 << which;
                    step();
                    plan.putMark(phase, which, takeNumber(cell(LEAST_MARK, which), cell(MOST_MARK, which)));
                }
            }
        }

        int markHere() {
            for (int i = 0; i < MARKS; i++) {
                if (isWord(wordOf(i))) {
                    return i;
                }
            }
            return NONE;
        }

        static String wordOf(int kindOfMark) {
            switch (kindOfMark) {
                case MIN: return "min";
                case PASS: return "pass";
                case MAX: return "max";
                case YELLOW_TICKS: return "yellow";
                case CLEAR: return "clear";
                case WALK: return "walk";
                case HALT: return "halt";
                case RECALL: return "recall";
                case SPLIT: return "split";
                default: return "rate";
            }
        }

        void tellOnce(int what) {
            if (fault == 0 && (told & what) != 0) {
                fail(TOLD_TWICE);
            }
            told |= what;
        }

        void readCycle() {
            tellOnce(CYCLE_TOLD);
            takeWord("cycle");
            if (fault == 0 && kind == NUMBER && !isCycle(number)) {
                fail(BAD_NUMBER);
            }
            plan.cycle = takeNumber(0, MOST_CYCLE);
            endLine();
        }

        void readOffset() {
            tellOnce(OFFSET_TOLD);
            takeWord("offset");
            plan.offset = takeNumber(0, MOST_OFFSET);
            endLine();
        }

        void readBreak() {
            step();
            if (fault == 0 && kind == NUMBER && isBreak(number)) {
                tellOnce(bit(number));
            }
            int which = takeNumber(TRAIN, ENGINE);
            takeWord("track");
            plan.putBreak(which, TRACK, takeSet());
            plan.putBreak(which, TRACK_TICKS, takeNumber(0, MOST_DWELL));
            takeWord("dwell");
            plan.putBreak(which, DWELL, takeSet());
            plan.putBreak(which, DWELL_TICKS, takeNumber(0, MOST_DWELL));
            takeWord("cut");
            plan.putBreak(which, CUT, takeNumber(0, MOST_CUT));
            endLine();
        }
    }
}
