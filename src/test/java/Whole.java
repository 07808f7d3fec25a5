/** All that can be asked of an object, as one text: some 150 calls for four phases. */
final class Whole {
    private Whole() {
    }

    static String of(RingedLights x) {
        StringBuilder all = new StringBuilder();
        for (int what = 0; what < 12; what++) {
            all.append(x.many(what)).append(' ');
        }
        for (int what = 0; what < 10; what++) {
            all.append(x.ring(0, what)).append(' ').append(x.ring(1, what)).append(' ');
        }
        for (int phase = 0; phase < x.many(0); phase++) {
            tellPhase(x, phase, all);
        }
        for (int what = 0; what < 6; what++) {
            all.append(x.brake(0, what)).append(' ').append(x.brake(1, what)).append(' ').append(x.sum(what)).append(' ');
        }
        for (int i = 0; i < 32 && x.event(i, 0) != RingedLights.NONE; i++) {
            all.append('\n').append(x.event(i, 0)).append(' ').append(x.event(i, 1)).append(' ').append(x.event(i, 2));
        }
        for (int what = 0; what < 3; what++) {
            all.append(' ').append(x.fault(what));
        }
        return all.append('\n').toString();
    }

    private static void tellPhase(RingedLights x, int phase, StringBuilder all) {
        all.append('\n');
        for (int what = 0; what < 9; what++) {
            all.append(x.phase(phase, what)).append(' ');
        }
        for (int mark = 0; mark < 10; mark++) {
            all.append(x.marked(phase, mark)).append(' ');
        }
        all.append('\n');
    }

    /** What shows itself later alone: the tape, the tick to come, the marks of all. */
    static String andOn(RingedLights x) {
        StringBuilder all = new StringBuilder(of(x));
        all.append(x.feed(0, 0, 0, 0, 0)).append(' ').append(x.tick(1)).append('\n').append(of(x));
        while (x.back() != RingedLights.NONE) {
            all.append(x.many(1)).append(' ').append(x.sum(1)).append(' ').append(x.ring(0, 2)).append('\n');
        }
        return all.toString();
    }
}
