/** Promises 1 to 4 and 12: the new object, set, setWay, addSpares, setting. */
public final class SettingsTest {
    private static final Due DUE = new Due("SettingsTest");
    private static final int[] FIRST = {5, 10, 3, 5, 400};
    private static final int[] LOWEST = {0, 1, 1, 2, 50};
    private static final int[] HIGHEST = {50, 40, 9, 9, 2000};

    public static void main(String[] args) {
        promise1NewObject();
        promise1ObjectsAreApart();
        promise2SetAnswersThePreviousValue();
        promise2SetRefuses();
        promise2SetLeavesTheCheckThatHasBegun();
        promise3SetWay();
        promise4AddSpares();
        promise12Setting();
        DUE.end();
    }

    private static void promise1NewObject() {
        QuietChecks x = new QuietChecks();
        int[] counts = {0, 0, 0, 6, 0, QuietChecks.NONE, 0, 0, 0, 0, 0, 0, 0};
        for (int what = 0; what < counts.length; what++) {
            DUE.same("new: count(" + what + ")", x.count(what), counts[what]);
        }
        for (int setting = 0; setting < 5; setting++) {
            DUE.same("new: setting(" + setting + ")", x.setting(setting), FIRST[setting]);
        }
        int[] numbers = {0, 0, 0, 0, 0, 10, QuietChecks.NONE};
        for (int span = 0; span < 8; span++) {
            for (int what = 0; what < numbers.length; what++) {
                DUE.same("new: span(" + span + ", " + what + ")", x.span(span, what), numbers[what]);
            }
            DUE.same("new: tries(" + span + ", 0)", x.tries(span, 0), QuietChecks.NO_SUCH);
        }
        DUE.same("new: entries()", x.entries(), 0);
        DUE.same("new: overdue()", x.overdue(), 0);
        DUE.same("new: nextCheck()", x.nextCheck(), QuietChecks.NONE);
        DUE.same("new: syntaxError()", x.syntaxError(), 0);
        DUE.same("new: clearText()", x.clearText(), 0);
        DUE.same("new: undo()", x.undo(), QuietChecks.NOT_POSSIBLE);
    }

    private static void promise1ObjectsAreApart() {
        QuietChecks x = new QuietChecks();
        QuietChecks y = new QuietChecks();
        long before = y.digest();
        x.set(0, 0);
        x.spot(1, 5);
        x.ask(1);
        x.quiet(40);
        x.type('a');
        DUE.same("apart: digest()", y.digest(), before);
        DUE.same("apart: clearText()", y.clearText(), 0);
        DUE.same("apart: undo()", y.undo(), QuietChecks.NOT_POSSIBLE);
        DUE.same("apart: a later object", new QuietChecks().digest(), before);
    }

    private static void promise2SetAnswersThePreviousValue() {
        for (int setting = 0; setting < 5; setting++) {
            QuietChecks x = new QuietChecks();
            DUE.same("lowest " + setting, x.set(setting, LOWEST[setting]), FIRST[setting]);
            DUE.same("is lowest " + setting, x.setting(setting), LOWEST[setting]);
            DUE.same("highest " + setting, x.set(setting, HIGHEST[setting]), LOWEST[setting]);
            DUE.same("is highest " + setting, x.setting(setting), HIGHEST[setting]);
            for (int other = 0; other < 5; other++) {
                if (other != setting) {
                    DUE.same("other " + other, x.setting(other), FIRST[other]);
                }
            }
            DUE.same("undo highest " + setting, x.undo(), 1);
            DUE.same("is lowest again " + setting, x.setting(setting), LOWEST[setting]);
            DUE.same("undo lowest " + setting, x.undo(), 0);
            DUE.same("is first again " + setting, x.setting(setting), FIRST[setting]);
        }
    }

    private static void promise2SetRefuses() {
        QuietChecks x = new QuietChecks();
        for (int setting = 0; setting < 5; setting++) {
            DUE.same("too low " + setting, x.set(setting, LOWEST[setting] - 1), QuietChecks.BAD_VALUE);
            DUE.same("too high " + setting, x.set(setting, HIGHEST[setting] + 1), QuietChecks.BAD_VALUE);
            DUE.same("unchanged " + setting, x.setting(setting), FIRST[setting]);
        }
        DUE.same("set(-1, 5)", x.set(-1, 5), QuietChecks.NO_SUCH);
        DUE.same("set(5, 5)", x.set(5, 5), QuietChecks.NO_SUCH);
        DUE.same("set(5, -1): NO_SUCH is named first", x.set(5, -1), QuietChecks.NO_SUCH);
        DUE.same("a refused set saves nothing", x.undo(), QuietChecks.NOT_POSSIBLE);
    }

    private static void promise2SetLeavesTheCheckThatHasBegun() {
        QuietChecks x = new QuietChecks();
        x.set(0, 0);
        x.spot(2, 3);
        x.ask(2);
        x.quiet(1);
        DUE.same("it takes 10 + 3 * 3", x.count(7), 19);
        x.set(1, 40);
        x.set(2, 9);
        x.spot(2, 9);
        DUE.same("it takes as before", x.count(7), 19);
        DUE.same("one that begins now takes 40 + 9 * (3 + 5)", x.span(2, 5), 112);
        DUE.same("not yet", x.quiet(17), 0);
        DUE.same("now it ends", x.quiet(1), 1);
    }

    private static void promise3SetWay() {
        QuietChecks x = new QuietChecks();
        DUE.same("setWay(2)", x.setWay(2), 0);
        DUE.same("count(4)", x.count(4), 2);
        DUE.same("setWay(1)", x.setWay(1), 2);
        DUE.same("setWay(1) again", x.setWay(1), 1);
        DUE.same("setWay(3)", x.setWay(3), QuietChecks.BAD_VALUE);
        DUE.same("setWay(-1)", x.setWay(-1), QuietChecks.BAD_VALUE);
        DUE.same("count(4) as before", x.count(4), 1);
        DUE.same("setWay(0)", x.setWay(0), 1);
        DUE.same("undo()", x.undo(), 3);
        DUE.same("undo()", x.undo(), 2);
        DUE.same("undo()", x.undo(), 1);
        DUE.same("count(4) undone", x.count(4), 2);
        DUE.same("undo()", x.undo(), 0);
        DUE.same("count(4) at first", x.count(4), 0);
    }

    private static void promise4AddSpares() {
        QuietChecks x = new QuietChecks();
        DUE.same("addSpares(0)", x.addSpares(0), QuietChecks.BAD_VALUE);
        DUE.same("addSpares(-1)", x.addSpares(-1), QuietChecks.BAD_VALUE);
        DUE.same("addSpares(10)", x.addSpares(10), QuietChecks.BAD_VALUE);
        DUE.same("nothing is saved", x.undo(), QuietChecks.NOT_POSSIBLE);
        DUE.same("addSpares(1)", x.addSpares(1), 7);
        for (int spares = 16; spares <= 43; spares += 9) {
            DUE.same("addSpares(9)", x.addSpares(9), spares);
        }
        DUE.same("addSpares(8) makes 51", x.addSpares(8), QuietChecks.LIMIT);
        DUE.same("addSpares(10): BAD_VALUE is named first", x.addSpares(10), QuietChecks.BAD_VALUE);
        DUE.same("count(3)", x.count(3), 43);
        DUE.same("addSpares(7) makes 50", x.addSpares(7), 50);
        DUE.same("addSpares(1) makes 51", x.addSpares(1), QuietChecks.LIMIT);
        DUE.same("undo()", x.undo(), 5);
        DUE.same("count(3) undone", x.count(3), 43);
    }

    private static void promise12Setting() {
        QuietChecks x = new QuietChecks();
        x.set(3, 7);
        DUE.same("setting(3)", x.setting(3), 7);
        DUE.same("setting(5)", x.setting(5), QuietChecks.NO_SUCH);
        DUE.same("setting(-1)", x.setting(-1), QuietChecks.NO_SUCH);
    }
}
