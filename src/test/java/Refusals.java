import java.util.function.Supplier;
import java.util.function.ToLongFunction;

/** What is to be seen of a call that is refused: its code, and that nothing else is different, then and after undo. */
final class Refusals {
    private Refusals() {
    }

    /** The call is refused with the code by the object that is made, which then is as another one made like it. */
    static void refused(Due due, String call, int code, Supplier<QuietChecks> maker, ToLongFunction<QuietChecks> made) {
        QuietChecks x = maker.get();
        due.same(call, made.applyAsLong(x), code);
        alike(due, call, x, maker.get());
    }

    static void everywhere(Due due, String call, int code, ToLongFunction<QuietChecks> made) {
        for (int state = 0; state < Disks.ANY.size(); state++) {
            refused(due, call + " in state " + state, code, Disks.ANY.get(state), made);
        }
    }

    /** The objects are alike in their state, in each of their saved states and in their texts; this uses them up. */
    static void alike(Due due, String when, QuietChecks x, QuietChecks y) {
        boolean more = true;
        for (int undone = 0; more; undone++) {
            state(due, when + ", undone " + undone, x, y);
            int left = y.undo();
            due.same(when + ", undo " + undone, x.undo(), left);
            more = left >= 0 && undone < 8;
        }
        due.same(when + ", syntaxError()", x.syntaxError(), y.syntaxError());
        due.same(when + ", carryOut()", x.carryOut(), y.carryOut());
        due.same(when + ", digest() after it", x.digest(), y.digest());
        due.same(when + ", clearText()", x.clearText(), y.clearText());
    }

    private static void state(Due due, String when, QuietChecks x, QuietChecks y) {
        due.same(when + ": digest()", x.digest(), y.digest());
        due.same(when + ": checkedIn(0)", x.checkedIn(0), y.checkedIn(0));
        due.same(when + ": checkedIn(7)", x.checkedIn(7), y.checkedIn(7));
        due.same(when + ": ifQuiet(300)", x.ifQuiet(300), y.ifQuiet(300));
        due.same(when + ": bestWay(300)", x.bestWay(300), y.bestWay(300));
    }
}
