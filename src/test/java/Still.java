import java.util.function.Predicate;
import java.util.function.Supplier;
import java.util.function.ToIntFunction;

/** Calls that change nothing: made on one of two objects that are alike, which are alike behind them too. */
final class Still {
    private Still() {
    }

    private static void alike(String what, RingedLights called, RingedLights other) {
        Check.due("all is as it was behind " + what, Whole.andOn(called).equals(Whole.andOn(other)), true);
    }

    static void refused(String what, Supplier<RingedLights> maker, ToIntFunction<RingedLights> call, int status) {
        RingedLights x = maker.get();
        Check.refused(what, x, call.applyAsInt(x), status);
        alike(what, x, maker.get());
    }

    static void denied(String what, Supplier<RingedLights> maker, Predicate<RingedLights> call, int status) {
        RingedLights x = maker.get();
        Check.due(what, x, call.test(x), status);
        alike(what, x, maker.get());
    }

    /** A call that is answered, and changes nothing all the same. */
    static void answered(String what, Supplier<RingedLights> maker, ToIntFunction<RingedLights> call, int want) {
        RingedLights x = maker.get();
        Check.due(what, x, call.applyAsInt(x), want, 0);
        alike(what, x, maker.get());
    }
}
