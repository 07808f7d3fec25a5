import java.util.Random;

/** Random runs of calls, each answer and each status held against the plain model. */
public final class RandomRunsTest {
    private static final int RUNS = Integer.getInteger("runs", 3000);
    /** Each with a status() behind it: an object is promised 512 calls. */
    private static final int CALLS = 250;

    private final Random random;
    private final long run;
    private final RingedLights lights = new RingedLights();
    private final PlainModel model = new PlainModel();
    private final StringBuilder told = new StringBuilder();
    private boolean wrong;
    private int made;

    private RandomRunsTest(long run) {
        this.run = run;
        this.random = new Random(run);
    }

    public static void main(String[] args) {
        int wrongs = 0;
        for (long run = 0; run < RUNS && wrongs < 3; run++) {
            RandomRunsTest test = new RandomRunsTest(run);
            test.make();
            if (test.wrong) {
                wrongs++;
            }
        }
        System.out.println(wrongs == 0 ? RUNS + " random runs are as due" : wrongs + " random runs are wrong");
        System.exit(wrongs == 0 ? 0 : 1);
    }

    private void make() {
        loadText(random.nextInt(12) == 0 ? badText() : goodText());
        while (made < CALLS && !wrong) {
            one();
        }
    }

    private void check(String call, int got, int due) {
        made++;
        told.append(call).append(" = ").append(got).append('\n');
        if (got != due || lights.status() != model.status()) {
            wrong = true;
            System.out.println("run " + run + ":\n" + told + "due is " + due + ", status " + lights.status()
                    + ", due is " + model.status());
        }
    }

    private void check(String call, boolean got, boolean due) {
        check(call, got ? 1 : 0, due ? 1 : 0);
    }

    // ---- what is drawn

    private int upTo(int most) {
        return random.nextInt(most + 1);
    }

    private boolean oneIn(int n) {
        return random.nextInt(n) == 0;
    }

    /** A number from least to most, at times one just outside, seldom one far away. */
    private int near(int least, int most) {
        switch (random.nextInt(40)) {
            case 0: return least - 1;
            case 1: return most + 1;
            case 2: return random.nextInt();
            case 3: return least;
            case 4: return most;
            default: return least + random.nextInt(most - least + 1);
        }
    }

    private int phase() {
        int phases = model.w.phases.size();
        return phases == 0 ? near(-1, 1) : near(0, phases - 1);
    }

    private int set() {
        return oneIn(4) ? near(0, (1 << model.w.phases.size()) - 1) : friends(model.w);
    }

    private int friends(PlainModel.World world) {
        int set = 0;
        for (PlainModel.Phase p : world.phases) {
            if (random.nextBoolean() && !world.foesIn(set | 1 << p.number)) {
                set |= 1 << p.number;
            }
        }
        return set;
    }

    private String goodText() {
        StringBuilder text = new StringBuilder();
        PlainModel.World world = new PlainModel.World();
        int phases = oneIn(20) ? 0 : 1 + upTo(7);
        int rings = oneIn(5) ? 1 : 2;
        int sides = oneIn(6) ? 1 : 2;
        for (int i = 0; i < phases; i++) {
            int ring = oneIn(9) ? 1 : upTo(rings - 1);
            int side = oneIn(9) ? 1 : upTo(sides - 1);
            world.phases.add(new PlainModel.Phase(i, ring, side));
            text.append("phase ").append(ring).append(' ').append(side);
            for (int mark = 0; mark < 10; mark++) {
                if (oneIn(mark == 9 ? 2 : mark < 3 ? 4 : 5)) {
                    text.append(' ').append(PlainModel.MARKS[mark]).append(oneIn(2) ? "" : "\n").append(much(mark));
                }
            }
            text.append(oneIn(2) ? " ;" : ";");
        }
        if (oneIn(3)) {
            text.append("cycle ").append(oneIn(2) ? 40 : 20 + upTo(100)).append(";offset ").append(upTo(239)).append(';');
        }
        for (int i = 0; i < 2; i++) {
            if (oneIn(2)) {
                text.append("break ").append(i).append(" track ").append(oneIn(4) ? 0 : friends(world)).append(' ');
                text.append(upTo(6)).append(" dwell ").append(friends(world)).append(' ').append(upTo(12));
                text.append(" cut ").append(upTo(6)).append(';');
            }
        }
        return text.toString();
    }

    private int much(int mark) {
        int least = PlainModel.RANGES[mark][0];
        int most = PlainModel.RANGES[mark][1];
        return oneIn(8) ? most : least + random.nextInt(Math.min(most - least, 12) + 1);
    }

    private String badText() {
        StringBuilder text = new StringBuilder(goodText());
        String signs = ";; 0129abcdefghiklmnoprstuwxyz\n\t-A\u00e9";
        String[] bits = {"phase", "cycle", "offset", "break", "track", "dwell", "cut", "min 3", "recall", "17", "1000",
            ";", "phase 0 1;", "cycle 0;", "cycle 30;", "offset 3;", "break 0 track 1 2 dwell 3 4 cut 5;", "break 1",
            "split", "255", "256"};
        for (int i = upTo(2); i >= 0; i--) {
            int place = upTo(text.length());
            int last = Math.min(text.length(), place + upTo(3));
            switch (random.nextInt(4)) {
                case 0:
                    text.insert(place, signs.charAt(random.nextInt(signs.length())));
                    break;
                case 1:
                    text.insert(place, " " + bits[random.nextInt(bits.length)] + " ");
                    break;
                case 2:
                    text.delete(place, last);
                    break;
                default:
                    text.replace(place, last, bits[random.nextInt(bits.length)]);
                    break;
            }
        }
        return text.toString();
    }

    private void loadText(String text) {
        String fed = text.length() > 700 ? text.substring(0, 700) : text;
        for (int i = 0; i < fed.length(); i += 20) {
            int[] five = new int[5];
            for (int j = 0; j < 20 && i + j < fed.length(); j++) {
                five[j / 4] |= (fed.charAt(i + j) & 255) << 24 - 8 * (j % 4);
            }
            feed(five);
        }
        int n = oneIn(9) ? near(0, fed.length()) : fed.length();
        check("load(" + n + ") of " + fed, lights.load(n), model.load(n));
        for (int what = -1; what < 4; what++) {
            check("fault(" + what + ")", lights.fault(what), model.fault(what));
        }
    }

    private void feed(int[] five) {
        check("feed", lights.feed(five[0], five[1], five[2], five[3], five[4]),
                model.feed(five[0], five[1], five[2], five[3], five[4]));
    }

    // ---- what is called

    private void one() {
        int kind = random.nextInt(100);
        if (kind < 55) {
            look();
        } else if (kind < 78) {
            act();
        } else if (kind < 96) {
            pass();
        } else {
            seldom();
        }
    }

    private void look() {
        int p = phase();
        int ring = near(0, 1);
        int what = near(0, 9);
        switch (random.nextInt(10)) {
            case 0: case 1: case 2:
                check("ring " + ring + " " + what, lights.ring(ring, what), model.ring(ring, what));
                break;
            case 3:
                check("phase " + p + " " + what, lights.phase(p, what), model.phase(p, what));
                break;
            case 4:
                check("many " + what, lights.many(what), model.many(what));
                int more = near(0, 11);
                check("many " + more, lights.many(more), model.many(more));
                break;
            case 5:
                check("marked " + p + " " + what, lights.marked(p, what), model.marked(p, what));
                check("brake " + ring + " " + what, lights.brake(ring, what), model.brake(ring, what));
                break;
            case 6:
                int whole = near(0, 5);
                check("sum " + whole, lights.sum(whole), model.sum(whole));
                break;
            case 7: case 8:
                int i = oneIn(2) ? upTo(3) : near(0, 31);
                int part = near(0, 2);
                check("event " + i + " " + part, lights.event(i, part), model.event(i, part));
                break;
            default:
                paper(p, ring);
                break;
        }
    }

    private void paper(int p, int brake) {
        int other = phase();
        int n = oneIn(4) ? near(1, 300) : near(1, 30);
        int two = near(0, 1);
        switch (random.nextInt(oneIn(6) ? 10 : 8)) {
            case 0:
                check("when " + p, lights.when(p), model.when(p));
                break;
            case 1:
                check("worst " + p, lights.worst(p), model.worst(p));
                break;
            case 2:
                check("cleared", lights.cleared(), model.cleared());
                break;
            case 3:
                check("instep", lights.instep(), model.instep());
                break;
            case 4:
                check("broken " + brake, lights.broken(brake), model.broken(brake));
                break;
            case 5:
                check("paper " + n + " " + two, lights.paper(n, two), model.paper(n, two));
                break;
            case 6:
                check("foes " + p + " " + other, lights.foes(p, other), model.foes(p, other));
                break;
            case 7:
                check("sets " + two, lights.sets(two), model.sets(two));
                break;
            case 8:
                int few = oneIn(2) ? near(1, 100) : near(1, 20);
                check("bestMax " + p + " " + few, lights.bestMax(p, few), model.bestMax(p, few));
                break;
            default:
                check("cheapest " + n, lights.cheapest(n), model.cheapest(n));
                break;
        }
    }

    private void act() {
        int p = phase();
        int brake = near(0, 1);
        switch (random.nextInt(10)) {
            case 0: case 1:
                boolean foot = random.nextBoolean();
                check("call " + p + " " + foot, lights.call(p, foot), model.call(p, foot));
                break;
            case 2: case 3:
                int n = oneIn(5) ? near(1, 99) : near(1, 4);
                check("come " + p + " " + n, lights.come(p, n), model.come(p, n));
                break;
            case 4:
                check("ask " + brake, lights.ask(brake), model.ask(brake));
                break;
            case 5: case 6:
                check("let " + brake, lights.let(brake), model.let(brake));
                break;
            case 7:
                int[] six = {brake, set(), near(0, oneIn(4) ? 30 : 5), set(), near(0, oneIn(4) ? 30 : 9), near(0, 20)};
                check("brakes", lights.brakes(six[0], six[1], six[2], six[3], six[4], six[5]),
                        model.brakes(six[0], six[1], six[2], six[3], six[4], six[5]));
                break;
            default:
                int mark = near(0, 9);
                int much = mark < 0 || mark > 9 || oneIn(5) ? near(0, 60) : much(mark);
                check("mark " + p + " " + mark + " " + much, lights.mark(p, mark, much), model.mark(p, mark, much));
                break;
        }
    }

    private void pass() {
        int many = oneIn(6) ? near(1, 300) : oneIn(3) ? near(1, 12) : 1;
        if (oneIn(4)) {
            int seed = near(0, 9999);
            check("run " + many + " " + seed, lights.run(many, seed), model.run(many, seed));
        } else {
            check("tick " + many, lights.tick(many), model.tick(many));
        }
        for (int ring = 0; ring < 2; ring++) {
            for (int what = 0; what < 10 && made < CALLS; what++) {
                if (oneIn(4)) {
                    check("ring " + ring + " " + what, lights.ring(ring, what), model.ring(ring, what));
                }
            }
        }
    }

    private void seldom() {
        int p = phase();
        switch (random.nextInt(7)) {
            case 0:
                boolean sticks = oneIn(3);
                check("stick " + p + " " + sticks, lights.stick(p, sticks), model.stick(p, sticks));
                break;
            case 1: case 2:
                check("reset", lights.reset(), model.reset());
                break;
            case 3:
                check("keep", lights.keep(), model.keep());
                break;
            case 4:
                check("back", lights.back(), model.back());
                break;
            case 5:
                int what = near(0, 1);
                int much = what == 0 && oneIn(2) ? 0 : near(0, 240);
                check("clock " + what + " " + much, lights.clock(what, much), model.clock(what, much));
                break;
            default:
                if (made < CALLS - 60 && oneIn(4)) {
                    loadText(oneIn(2) ? badText() : goodText());
                } else if (made < CALLS - 5) {
                    feed(new int[] {random.nextInt(), 0, -1, random.nextInt(), Integer.MIN_VALUE});
                }
                break;
        }
    }
}
