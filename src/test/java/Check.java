/** What the tests share: counted answers, and a crossing loaded from a text. */
final class Check {
    private static int right;
    private static int wrong;

    private Check() {
    }

    static void due(String what, long got, long want) {
        if (got == want) {
            right++;
        } else {
            wrong++;
            System.out.println(what + " answered " + got + ", due is " + want);
        }
    }

    static void due(String what, boolean got, boolean want) {
        due(what, got ? 1 : 0, want ? 1 : 0);
    }

    /** An answer and the status behind it. */
    static void due(String what, RingedLights x, long got, long want, int status) {
        due(what, got, want);
        due("status() behind " + what, x.status(), status);
    }

    static void due(String what, RingedLights x, boolean got, int status) {
        due(what, x, got ? 1 : 0, status == 0 ? 1 : 0, status);
    }

    static void refused(String what, RingedLights x, int got, int status) {
        due(what, x, got, RingedLights.NONE, status);
    }

    static void feedText(RingedLights x, String text) {
        for (int i = 0; i < text.length(); i += 20) {
            int[] five = new int[5];
            for (int j = 0; j < 20 && i + j < text.length(); j++) {
                five[j / 4] |= (text.charAt(i + j) & 255) << 24 - 8 * (j % 4);
            }
            x.feed(five[0], five[1], five[2], five[3], five[4]);
        }
    }

    static int loadInto(RingedLights x, String text) {
        feedText(x, text);
        return x.load(text.length());
    }

    /** A new object with this crossing. */
    static RingedLights of(String text) {
        RingedLights x = new RingedLights();
        loadInto(x, text);
        due("status() behind load of " + text, x.status(), 0);
        return x;
    }

    static void fault(String text, int kind, int place, int line) {
        RingedLights x = new RingedLights();
        refused("load of " + text, x, loadInto(x, text), 9);
        due("fault(0) of " + text, x.fault(0), kind);
        due("fault(1) of " + text, x.fault(1), place);
        due("fault(2) of " + text, x.fault(2), line);
    }

    /** What a ring answers to 0, 1, 2, ..: as many as there are wanted. */
    static void ring(RingedLights x, int ring, int... wanted) {
        for (int what = 0; what < wanted.length; what++) {
            due("tick " + x.many(1) + ": ring(" + ring + ", " + what + ")", x.ring(ring, what), wanted[what]);
        }
    }

    static void event(RingedLights x, int i, int kind, int tick, int which) {
        due("event(" + i + ", 0)", x.event(i, 0), kind);
        due("event(" + i + ", 1)", x, x.event(i, 1), tick, 0);
        due("event(" + i + ", 2)", x, x.event(i, 2), which, 0);
    }

    static void end() {
        System.out.println(right + " answers as due, " + wrong + " not");
        System.exit(wrong == 0 ? 0 : 1);
    }
}
