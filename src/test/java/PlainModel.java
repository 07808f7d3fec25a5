import java.util.ArrayList;
import java.util.List;

/**
 * The document once more, sentence by sentence and with no thought for room: lists, copies, exceptions. The random runs
 * hold the class against it.
 */
final class PlainModel {
    static final String[] MARKS =
            {"min", "pass", "max", "yellow", "clear", "walk", "halt", "recall", "split", "rate"};
    static final int[][] RANGES =
            {{1, 30}, {1, 9}, {1, 60}, {1, 5}, {0, 4}, {0, 20}, {0, 20}, {0, 3}, {0, 60}, {0, 30}};
    static final int[] WITHOUT = {5, 2, 20, 3, 1, 0, 0, 0, 0, 0};

    static final class Phase {
        final int number;
        final int ring;
        final int side;
        int[] marks = WITHOUT.clone();
        int queue;
        int letGo;
        boolean call;
        boolean footCall;
        boolean calledForGap;
        boolean sticks;

        Phase(int number, int ring, int side) {
            this.number = number;
            this.ring = ring;
            this.side = side;
        }

        boolean foe(Phase other) {
            return other != this && (other.ring == ring || other.side != side);
        }

        boolean onFoot() {
            return (marks[5] > 0 && footCall) || marks[7] == 3;
        }

        boolean called() {
            return call || queue > 0 || marks[7] != 0;
        }

        boolean asked() {
            return called() || onFoot();
        }
    }

    static final class Ring {
        final int number;
        Phase at;
        String lamp = "waits";
        int age;
        Phase to;
        int gap;
        int pressed;
        int walking;
        int halted;

        Ring(int number) {
            this.number = number;
        }

        boolean holds() {
            return at != null && !lamp.equals("waits");
        }

        boolean green() {
            return lamp.equals("green");
        }
    }

    static final class Break {
        int track;
        int trackTicks;
        int dwell;
        int dwellTicks;
        int cut;
        boolean wanted;
    }

    static final class World {
        List<Phase> phases = new ArrayList<>();
        List<Ring> rings = new ArrayList<>(List.of(new Ring(0), new Ring(1)));
        List<Break> breaks = new ArrayList<>(List.of(new Break(), new Break()));
        List<int[]> events = new ArrayList<>();
        int cycle;
        int offset;
        int tick;
        int clock;
        int begun = -1;
        int stage;
        int stageTicks;
        boolean flash;
        long waited;

        Phase same(Phase old) {
            return old == null ? null : phases.get(old.number);
        }

        World copy() {
            World w = new World();
            for (Phase p : phases) {
                Phase q = new Phase(p.number, p.ring, p.side);
                q.marks = p.marks.clone();
                q.queue = p.queue;
                q.letGo = p.letGo;
                q.call = p.call;
                q.footCall = p.footCall;
                q.calledForGap = p.calledForGap;
                q.sticks = p.sticks;
                w.phases.add(q);
            }
            for (int i = 0; i < 2; i++) {
                Ring r = rings.get(i);
                Ring q = w.rings.get(i);
                q.at = w.same(r.at);
                q.lamp = r.lamp;
                q.age = r.age;
                q.to = w.same(r.to);
                q.gap = r.gap;
                q.pressed = r.pressed;
                q.walking = r.walking;
                q.halted = r.halted;
                Break b = breaks.get(i);
                Break c = w.breaks.get(i);
                c.track = b.track;
                c.trackTicks = b.trackTicks;
                c.dwell = b.dwell;
                c.dwellTicks = b.dwellTicks;
                c.cut = b.cut;
                c.wanted = b.wanted;
            }
            for (int[] e : events) {
                w.events.add(e.clone());
            }
            w.cycle = cycle;
            w.offset = offset;
            w.tick = tick;
            w.clock = clock;
            w.begun = begun;
            w.stage = stage;
            w.stageTicks = stageTicks;
            w.flash = flash;
            w.waited = waited;
            return w;
        }

        List<Phase> row(Ring r) {
            List<Phase> row = new ArrayList<>();
            for (int side = 0; side < 2; side++) {
                row.addAll(row(r, side));
            }
            return row;
        }

        List<Phase> row(Ring r, int side) {
            List<Phase> row = new ArrayList<>();
            for (Phase p : phases) {
                if (p.ring == r.number && p.side == side) {
                    row.add(p);
                }
            }
            return row;
        }

        static Phase first(List<Phase> row) {
            return row.isEmpty() ? null : row.get(0);
        }

        boolean anyOn(int side) {
            return phases.stream().anyMatch(p -> p.side == side);
        }

        void rest(Ring r, Phase to) {
            r.at = null;
            r.lamp = "waits";
            r.age = 0;
            r.to = to;
        }

        void start() {
            int side = anyOn(0) ? 0 : 1;
            for (Ring r : rings) {
                rest(r, first(row(r, side)));
            }
        }

        void event(int kind, int which) {
            events.add(0, new int[] {kind, tick, which});
            if (events.size() > 32) {
                events.remove(32);
            }
        }

        void becomes(Ring r, Phase p) {
            r.at = p;
            r.lamp = "green";
            r.age = 0;
            r.gap = 0;
            r.pressed = 0;
            r.halted = 0;
            r.to = null;
            r.walking = p.onFoot() ? 1 : 0;
            p.call = false;
            p.footCall = false;
            event(0, p.number);
        }

        void leaves(Ring r, Phase to) {
            event(1, r.at.number);
            r.lamp = "yellow";
            r.age = 0;
            r.to = to;
            r.walking = 0;
        }

        void goes(Ring r, Phase to) {
            if (r.holds()) {
                leaves(r, to);
            } else {
                r.to = to;
            }
        }

        int due() {
            return Math.floorMod(tick - offset, cycle);
        }

        int end(Phase p) {
            int end = 0;
            for (Phase q : row(rings.get(p.ring))) {
                end += q.marks[8];
                if (q == p) {
                    return end;
                }
            }
            throw new IllegalStateException();
        }

        boolean forced(Phase p) {
            return cycle != 0 && Math.floorMod(clock - end(p), cycle) < cycle / 2;
        }

        boolean done(Ring r) {
            if (!r.green() || r.age < r.at.marks[0] || r.walking != 0) {
                return false;
            }
            boolean gap = r.gap >= r.at.marks[1];
            if (cycle == 0) {
                return (gap && r.at.marks[7] != 2) || r.pressed >= r.at.marks[2];
            }
            return forced(r.at) || (r.at != first(row(r)) && gap);
        }

        Phase next(Ring r) {
            for (Phase p : row(r, r.at.side)) {
                if (p.number > r.at.number && p.asked()) {
                    return p;
                }
            }
            return null;
        }

        void tick() {
            tick++;
            if (cycle != 0) {
                clock++;
                if (clock == cycle) {
                    clock = 0;
                }
                int ahead = Math.floorMod(due() - clock, cycle);
                if (ahead != 0 && tick % 4 == 0) {
                    clock = Math.floorMod(clock + (ahead <= cycle / 2 ? 1 : -1), cycle);
                }
            }
            if (!flash) {
                for (Ring r : rings) {
                    if (r.holds()) {
                        four(r);
                    }
                }
                for (Phase p : phases) {
                    p.calledForGap = false;
                }
                five();
                if (begun == -1) {
                    six();
                }
                seven();
            }
            eight();
            for (Phase p : phases) {
                waited += p.queue;
            }
        }

        void four(Ring r) {
            r.age++;
            Phase p = r.at;
            if (r.green()) {
                if (p.queue > 0 || p.calledForGap) {
                    r.gap = 0;
                } else {
                    r.gap++;
                }
                if (p.queue > 0) {
                    p.queue--;
                    p.letGo++;
                }
                if (phases.stream().anyMatch(q -> q.foe(p) && q.asked())) {
                    r.pressed++;
                }
                if (r.walking == 2) {
                    r.halted++;
                }
                if (r.walking == 1 && r.age >= p.marks[5]) {
                    r.walking = 2;
                }
                if (r.walking == 2 && r.halted >= p.marks[6]) {
                    r.walking = 0;
                }
                return;
            }
            if (r.lamp.equals("yellow") && r.age >= p.marks[3]) {
                r.lamp = "red";
                r.age = 0;
            }
            if (r.lamp.equals("red") && r.age >= p.marks[4]) {
                rest(r, r.to);
            }
        }

        Phase of(int set, Ring r) {
            for (Phase p : phases) {
                if (p.ring == r.number && (set & 1 << p.number) != 0) {
                    return p;
                }
            }
            return null;
        }

        void five() {
            if (begun == -1) {
                for (int b = 1; b >= 0; b--) {
                    if (breaks.get(b).wanted) {
                        begun = b;
                    }
                }
                if (begun != -1) {
                    begin();
                }
            } else if (begun == 1 && breaks.get(0).wanted) {
                event(3, 1);
                begun = 0;
                begin();
            }
            if (begun == -1) {
                return;
            }
            Break b = breaks.get(begun);
            if (stage == 1 || stage == 3) {
                seek(b, stage == 1 ? b.track : b.dwell);
            } else if (stage == 2) {
                stageTicks++;
                if (stageTicks >= b.trackTicks) {
                    stage = 3;
                    stageTicks = 0;
                }
            } else {
                stageTicks++;
                if (stageTicks >= b.dwellTicks && !b.wanted) {
                    finish();
                }
            }
        }

        void begin() {
            event(2, begun);
            stage = breaks.get(begun).track != 0 ? 1 : 3;
            stageTicks = 0;
        }

        void seek(Break b, int goal) {
            for (Ring r : rings) {
                Phase g = of(goal, r);
                if (r.green() && r.at != g) {
                    if (r.walking == 1) {
                        r.walking = 2;
                        r.halted = 0;
                    }
                    if (r.walking == 0 || r.halted >= b.cut) {
                        leaves(r, g);
                    }
                } else if (!r.green()) {
                    r.to = g;
                }
            }
            seven();
            for (Ring r : rings) {
                Phase g = of(goal, r);
                if (g == null ? r.at != null : !(r.green() && r.at == g)) {
                    return;
                }
            }
            stage++;
            stageTicks = 0;
        }

        void finish() {
            event(3, begun);
            begun = -1;
            stage = 0;
            stageTicks = 0;
            int side = -1;
            for (Ring r : rings) {
                if (r.green()) {
                    side = r.at.side;
                }
            }
            if (side == -1) {
                start();
                return;
            }
            for (Ring r : rings) {
                if (r.at == null) {
                    r.to = first(row(r, side));
                }
            }
        }

        void six() {
            boolean left = false;
            for (Ring r : rings) {
                if (done(r) && next(r) != null) {
                    leaves(r, next(r));
                    left = true;
                }
            }
            if (left) {
                return;
            }
            int side = -1;
            for (Ring r : rings) {
                if (r.holds()) {
                    if (!done(r)) {
                        return;
                    }
                    side = r.at.side;
                }
            }
            if (side == -1) {
                return;
            }
            int other = 1 - side;
            boolean askedThere = phases.stream().anyMatch(p -> p.side == other && p.asked());
            for (Ring r : rings) {
                Phase to = null;
                if (askedThere) {
                    for (Phase p : row(r, other)) {
                        if (p.asked() && to == null) {
                            to = p;
                        }
                    }
                    goes(r, to != null ? to : first(row(r, other)));
                } else {
                    for (Phase p : row(r, side)) {
                        if (p.asked() && p != r.at && to == null) {
                            to = p;
                        }
                    }
                    if (to != null) {
                        goes(r, to);
                    }
                }
            }
        }

        void seven() {
            for (Ring r : rings) {
                Ring o = rings.get(1 - r.number);
                if (r.lamp.equals("waits") && r.to != null && !(o.holds() && o.at.foe(r.to))) {
                    becomes(r, r.to);
                }
            }
        }

        List<Phase> shown() {
            List<Phase> shown = new ArrayList<>();
            for (Phase p : phases) {
                boolean lit = p.sticks;
                for (Ring r : rings) {
                    lit |= r.at == p && (r.green() || r.lamp.equals("yellow"));
                }
                if (lit) {
                    shown.add(p);
                }
            }
            return shown;
        }

        void eight() {
            for (Phase p : shown()) {
                for (Phase q : shown()) {
                    if (p.foe(q) && !flash) {
                        flash = true;
                        event(4, p.number);
                        for (Ring r : rings) {
                            rest(r, null);
                        }
                        begun = -1;
                        stage = 0;
                        stageTicks = 0;
                        return;
                    }
                }
            }
        }

        int letGo() {
            return phases.stream().mapToInt(p -> p.letGo).sum();
        }

        int queues() {
            return phases.stream().mapToInt(p -> p.queue).sum();
        }

        boolean green(int p) {
            Ring r = rings.get(phases.get(p).ring);
            return r.green() && r.at == phases.get(p);
        }

        void call(int p) {
            if (green(p)) {
                phases.get(p).calledForGap = true;
            } else {
                phases.get(p).call = true;
            }
        }

        boolean foesIn(int set) {
            for (Phase p : phases) {
                for (Phase q : phases) {
                    if ((set & 1 << p.number) != 0 && (set & 1 << q.number) != 0 && p.foe(q)) {
                        return true;
                    }
                }
            }
            return false;
        }

        boolean hasSet(int set) {
            return set >= 0 && set < 1 << phases.size();
        }
    }

    // ---- the text

    static final class Fault extends RuntimeException {
        private static final long serialVersionUID = 1;
        final int kind;
        final int place;
        final int line;

        Fault(int kind, int place, int line) {
            this.kind = kind;
            this.place = place;
            this.line = line;
        }
    }

    static final class Text {
        final String text;
        final World world = new World();
        int place;
        int lines;
        String token;
        int at;

        Text(String text) {
            this.text = text;
        }

        Fault bad(int kind) {
            return new Fault(kind, at, lines);
        }

        static int kind(char c) {
            return c >= 'a' && c <= 'z' ? 1 : c >= '0' && c <= '9' ? 2 : 0;
        }

        void next() {
            while (place < text.length() && (text.charAt(place) == 10 || text.charAt(place) == 32)) {
                place++;
            }
            at = place;
            if (place == text.length()) {
                token = "";
                return;
            }
            char c = text.charAt(place);
            place++;
            while (kind(c) != 0 && place < text.length() && kind(text.charAt(place)) == kind(c)) {
                place++;
            }
            token = text.substring(at, place);
            if (c != ';' && kind(c) == 0 || kind(c) == 2 && token.length() > 3) {
                throw bad(1);
            }
        }

        void word(String word) {
            if (!token.equals(word)) {
                throw bad(2);
            }
            next();
        }

        int look() {
            if (token.isEmpty() || kind(token.charAt(0)) != 2) {
                throw bad(2);
            }
            return Integer.parseInt(token);
        }

        int number(int least, int most) {
            int n = look();
            if (n < least || n > most) {
                throw bad(4);
            }
            next();
            return n;
        }

        int set() {
            int n = look();
            if (!world.hasSet(n)) {
                throw bad(3);
            }
            if (world.foesIn(n)) {
                throw bad(4);
            }
            next();
            return n;
        }

        World read() {
            boolean cycle = false;
            boolean offset = false;
            boolean[] told = new boolean[2];
            next();
            while (!token.isEmpty()) {
                switch (token) {
                    case "phase" -> phase();
                    case "cycle" -> {
                        if (cycle) {
                            throw bad(5);
                        }
                        cycle = true;
                        next();
                        if (look() != 0 && look() < 20) {
                            throw bad(4);
                        }
                        world.cycle = number(0, 240);
                    }
                    case "offset" -> {
                        if (offset) {
                            throw bad(5);
                        }
                        offset = true;
                        next();
                        world.offset = number(0, 239);
                    }
                    case "break" -> {
                        next();
                        int b = look();
                        if (b < 2 && told[b]) {
                            throw bad(5);
                        }
                        number(0, 1);
                        told[b] = true;
                        Break br = world.breaks.get(b);
                        word("track");
                        br.track = set();
                        br.trackTicks = number(0, 30);
                        word("dwell");
                        br.dwell = set();
                        br.dwellTicks = number(0, 30);
                        word("cut");
                        br.cut = number(0, 20);
                    }
                    default -> throw bad(2);
                }
                if (!token.equals(";")) {
                    throw bad(2);
                }
                lines++;
                next();
            }
            return world;
        }

        void phase() {
            if (world.phases.size() == 8) {
                throw bad(6);
            }
            next();
            int ring = number(0, 1);
            int side = number(0, 1);
            Phase p = new Phase(world.phases.size(), ring, side);
            world.phases.add(p);
            List<String> had = new ArrayList<>();
            while (!token.equals(";")) {
                int m = List.of(MARKS).indexOf(token);
                if (m < 0) {
                    throw bad(2);
                }
                if (had.contains(token)) {
                    throw bad(5);
                }
                had.add(token);
                next();
                p.marks[m] = number(RANGES[m][0], RANGES[m][1]);
            }
        }
    }

    // ---- the calls

    World w = new World();
    List<World> kept = new ArrayList<>();
    StringBuilder tape = new StringBuilder();
    int[] fault;
    int status;

    int no(int why) {
        status = why;
        return -1;
    }

    int yes(long n) {
        status = 0;
        return (int) n;
    }

    boolean is(int why) {
        status = why;
        return why == 0;
    }

    boolean none(int phase) {
        return phase < 0 || phase >= w.phases.size();
    }

    static boolean out(int n, int least, int most) {
        return n < least || n > most;
    }

    static int index(Phase p) {
        return p == null ? -1 : p.number;
    }

    int status() {
        return status;
    }

    int feed(int a, int b, int c, int d, int e) {
        if (tape.length() + 20 > 700) {
            return -1;
        }
        for (int x : new int[] {a, b, c, d, e}) {
            tape.append((char) (x >>> 24)).append((char) (x >>> 16 & 255));
            tape.append((char) (x >>> 8 & 255)).append((char) (x & 255));
        }
        return tape.length();
    }

    int load(int n) {
        if (out(n, 0, tape.length())) {
            return no(1);
        }
        String text = tape.substring(0, n);
        tape.setLength(0);
        try {
            World read = new Text(text).read();
            fault = new int[] {0, -1, -1};
            w = read;
            w.start();
            return yes(w.phases.size());
        } catch (Fault f) {
            fault = new int[] {f.kind, f.place, f.line};
            return no(9);
        }
    }

    int fault(int what) {
        return fault == null || out(what, 0, 2) ? -1 : fault[what];
    }

    int many(int what) {
        if (out(what, 0, 11)) {
            return no(1);
        }
        int stuck = 0;
        for (Phase p : w.phases) {
            stuck |= p.sticks ? 1 << p.number : 0;
        }
        int wanted = (w.breaks.get(0).wanted ? 1 : 0) + (w.breaks.get(1).wanted ? 2 : 0);
        return yes(new int[] {w.phases.size(), w.tick, w.cycle, w.offset, w.clock, w.flash ? 1 : 0, stuck, w.begun,
            w.stage, w.stageTicks, wanted, kept.size()}[what]);
    }

    int ring(int ring, int what) {
        if (out(what, 0, 9)) {
            return no(1);
        }
        if (out(ring, 0, 1)) {
            return no(2);
        }
        Ring r = w.rings.get(ring);
        if (what > 3 && !r.green()) {
            return yes(0);
        }
        return yes(switch (what) {
            case 0 -> index(r.at);
            case 1 -> List.of("green", "yellow", "red", "waits").indexOf(r.lamp);
            case 2 -> r.age;
            case 3 -> index(r.to);
            case 4 -> r.gap;
            case 5 -> r.pressed;
            case 6 -> r.walking;
            case 7 -> r.halted;
            case 8 -> w.done(r) ? 1 : 0;
            default -> w.forced(r.at) ? 1 : 0;
        });
    }

    int phase(int phase, int what) {
        if (out(what, 0, 8)) {
            return no(1);
        }
        if (none(phase)) {
            return no(2);
        }
        Phase p = w.phases.get(phase);
        Ring r = w.rings.get(p.ring);
        int foes = 0;
        for (Phase q : w.phases) {
            foes |= q.foe(p) ? 1 << q.number : 0;
        }
        int lamp = r.at != p ? 0 : r.green() ? 2 : r.lamp.equals("yellow") ? 1 : 0;
        return yes(new int[] {p.ring, p.side, p.sticks ? 2 : lamp, p.queue, p.called() ? 1 : 0, p.onFoot() ? 1 : 0,
            p.letGo, w.end(p), foes}[what]);
    }

    int marked(int phase, int mark) {
        return out(mark, 0, 9) ? no(1) : none(phase) ? no(2) : yes(w.phases.get(phase).marks[mark]);
    }

    int brake(int brake, int what) {
        if (out(what, 0, 5)) {
            return no(1);
        }
        if (out(brake, 0, 1)) {
            return no(2);
        }
        Break b = w.breaks.get(brake);
        return yes(new int[] {b.track, b.trackTicks, b.dwell, b.dwellTicks, b.cut, b.wanted ? 1 : 0}[what]);
    }

    int sum(int what) {
        if (out(what, 0, 5)) {
            return no(1);
        }
        int most = 0;
        int first = -1;
        int shown = 0;
        for (Phase p : w.phases) {
            if (p.queue > most) {
                most = p.queue;
                first = p.number;
            }
        }
        for (Phase p : w.shown()) {
            shown |= 1 << p.number;
        }
        return yes(new long[] {w.letGo(), w.waited, w.queues(), most, first, shown}[what]);
    }

    int event(int i, int what) {
        if (out(i, 0, 31) || out(what, 0, 2)) {
            return no(1);
        }
        return i >= w.events.size() ? no(5) : yes(w.events.get(i)[what]);
    }

    int mark(int phase, int mark, int much) {
        if (out(mark, 0, 9) || out(much, RANGES[mark][0], RANGES[mark][1])) {
            return no(1);
        }
        if (none(phase)) {
            return no(2);
        }
        int had = w.phases.get(phase).marks[mark];
        w.phases.get(phase).marks[mark] = much;
        return yes(had);
    }

    int clock(int what, int much) {
        if (what == 0 && (much == 0 || !out(much, 20, 240))) {
            if (much == w.cycle) {
                return no(4);
            }
            int had = w.cycle;
            w.cycle = much;
            w.clock = much == 0 ? 0 : w.clock % much;
            return yes(had);
        }
        if (what == 1 && !out(much, 0, 239)) {
            if (much == w.offset) {
                return no(4);
            }
            int had = w.offset;
            w.offset = much;
            return yes(had);
        }
        return no(1);
    }

    boolean call(int phase, boolean foot) {
        if (none(phase)) {
            return is(2);
        }
        Phase p = w.phases.get(phase);
        if (foot ? p.footCall : p.call) {
            return is(4);
        }
        if (foot && p.marks[5] == 0) {
            return is(5);
        }
        if (w.flash) {
            return is(8);
        }
        if (foot) {
            p.footCall = true;
        } else {
            w.call(phase);
        }
        return is(0);
    }

    int come(int phase, int n) {
        if (out(n, 1, 99)) {
            return no(1);
        }
        if (none(phase)) {
            return no(2);
        }
        Phase p = w.phases.get(phase);
        if (p.queue + n > 99) {
            return no(3);
        }
        p.queue += n;
        return yes(p.queue);
    }

    boolean ask(int brake) {
        if (out(brake, 0, 1)) {
            return is(2);
        }
        boolean so = w.breaks.get(brake).wanted;
        w.breaks.get(brake).wanted = true;
        return is(so ? 4 : 0);
    }

    boolean let(int brake) {
        if (out(brake, 0, 1)) {
            return is(2);
        }
        boolean so = !w.breaks.get(brake).wanted;
        w.breaks.get(brake).wanted = false;
        return is(so ? 4 : 0);
    }

    boolean brakes(int brake, int track, int ticks, int dwell, int least, int cut) {
        if (!w.hasSet(track) || !w.hasSet(dwell) || out(ticks, 0, 30) || out(least, 0, 30) || out(cut, 0, 20)) {
            return is(1);
        }
        if (out(brake, 0, 1)) {
            return is(2);
        }
        if (w.begun == brake) {
            return is(4);
        }
        if (w.foesIn(track) || w.foesIn(dwell)) {
            return is(7);
        }
        Break b = w.breaks.get(brake);
        b.track = track;
        b.trackTicks = ticks;
        b.dwell = dwell;
        b.dwellTicks = least;
        b.cut = cut;
        return is(0);
    }

    boolean stick(int phase, boolean sticks) {
        if (none(phase)) {
            return is(2);
        }
        boolean so = w.phases.get(phase).sticks == sticks;
        w.phases.get(phase).sticks = sticks;
        return is(so ? 4 : 0);
    }

    boolean reset() {
        if (!w.flash) {
            return is(5);
        }
        w.flash = false;
        w.start();
        w.event(5, -1);
        return is(0);
    }

    int tick(int many) {
        if (out(many, 1, 300)) {
            return no(1);
        }
        for (int i = 0; i < many; i++) {
            w.tick();
        }
        return yes(w.tick);
    }

    int run(int ticks, int seed) {
        if (out(ticks, 1, 300) || out(seed, 0, 9999)) {
            return no(1);
        }
        int ahead = w.letGo();
        long s = seed;
        for (int i = 0; i < ticks; i++) {
            for (Phase p : w.phases) {
                s = (s * 9301 + 49297) % 233280;
                if (s * 60 / 233280 < p.marks[9]) {
                    p.queue = Math.min(99, p.queue + 1);
                }
            }
            w.tick();
        }
        return yes(w.letGo() - ahead);
    }

    int keep() {
        if (kept.size() == 3) {
            return no(3);
        }
        kept.add(w.copy());
        return yes(kept.size());
    }

    int back() {
        if (kept.isEmpty()) {
            return no(5);
        }
        w = kept.remove(kept.size() - 1);
        return yes(kept.size());
    }

    int foes(int phase, int other) {
        if (none(phase) || none(other)) {
            return no(2);
        }
        return yes(w.phases.get(phase).foe(w.phases.get(other)) ? 1 : 0);
    }

    int sets(int what) {
        if (out(what, 0, 1)) {
            return no(1);
        }
        int sets = 0;
        int best = 0;
        int most = -1;
        for (int set = 1; set < 1 << w.phases.size(); set++) {
            boolean full = !w.foesIn(set);
            int queue = 0;
            for (Phase p : w.phases) {
                boolean inside = (set & 1 << p.number) != 0;
                full &= inside || w.foesIn(set | 1 << p.number);
                queue += inside ? p.queue : 0;
            }
            if (full) {
                sets++;
                if (queue > most) {
                    most = queue;
                    best = set;
                }
            }
        }
        return yes(what == 0 ? sets : best);
    }

    interface Reached {
        boolean by(World world);
    }

    int until(World paper, int exceptCalled, Reached reached) {
        if (reached.by(paper)) {
            return yes(0);
        }
        for (int i = 1; i <= 600; i++) {
            for (int p = 0; p < paper.phases.size() && exceptCalled >= 0; p++) {
                if (p != exceptCalled) {
                    paper.call(p);
                }
            }
            paper.tick();
            if (reached.by(paper)) {
                return yes(i);
            }
        }
        return no(6);
    }

    int when(int phase) {
        return none(phase) ? no(2) : until(w.copy(), -1, x -> x.green(phase));
    }

    int worst(int phase) {
        if (none(phase)) {
            return no(2);
        }
        World paper = w.copy();
        paper.call(phase);
        return until(paper, phase, x -> x.green(phase));
    }

    int cleared() {
        return until(w.copy(), -1, x -> x.queues() == 0);
    }

    int instep() {
        return w.cycle == 0 ? no(5) : until(w.copy(), -1, x -> x.clock == x.due());
    }

    int broken(int brake) {
        if (out(brake, 0, 1)) {
            return no(2);
        }
        World paper = w.copy();
        paper.breaks.get(brake).wanted = true;
        return until(paper, -1, x -> x.begun == brake && x.stage % 2 == 0);
    }

    int paper(int n, int what) {
        if (out(n, 1, 300) || out(what, 0, 1)) {
            return no(1);
        }
        World paper = w.copy();
        for (int i = 0; i < n; i++) {
            paper.tick();
        }
        return yes(what == 0 ? paper.letGo() - w.letGo() : paper.waited - w.waited);
    }

    int bestMax(int phase, int n) {
        if (out(n, 1, 100)) {
            return no(1);
        }
        if (none(phase)) {
            return no(2);
        }
        int best = -1;
        long least = Long.MAX_VALUE;
        for (int max = 1; max <= 60; max++) {
            World paper = w.copy();
            paper.phases.get(phase).marks[2] = max;
            for (int i = 0; i < n; i++) {
                paper.tick();
            }
            if (paper.waited < least) {
                least = paper.waited;
                best = max;
            }
        }
        return yes(best);
    }

    int cheapest(int n) {
        if (out(n, 1, 100)) {
            return no(1);
        }
        if (w.phases.isEmpty()) {
            return no(5);
        }
        int best = -1;
        long least = Long.MAX_VALUE;
        for (int p = 0; p < w.phases.size(); p++) {
            World paper = w.copy();
            paper.phases.get(p).queue += 10;
            for (int i = 0; i < n; i++) {
                paper.tick();
            }
            if (paper.waited < least) {
                least = paper.waited;
                best = p;
            }
        }
        return yes(best);
    }
}
