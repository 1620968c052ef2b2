import java.io.IOException;

/** The edges of promises 1 to 4 and 12: the new object, set, setWay, addSpares, setting. */
public final class EdgesOfSettingsTest {
    private static final Due DUE = new Due("EdgesOfSettingsTest");
    private static final int[] FIRST = {5, 10, 3, 5, 400};
    private static final int[] LOWEST = {0, 1, 1, 2, 50};
    private static final int[] HIGHEST = {50, 40, 9, 9, 2000};

    public static void main(String[] args) throws IOException, ReflectiveOperationException {
        Edges.run(EdgesOfSettingsTest.class, DUE);
    }

    @Says(promise = 1, words = "Creates a disk without spots, at the tick 0.")
    static void newObject() {
        QuietChecks x = new QuietChecks();
        DUE.same("the tick", x.count(0), 0);
        DUE.same("the spots", x.count(2), 0);
        for (int span = 0; span < 8; span++) {
            DUE.spots("without spots", x, span);
            DUE.same("its age", x.span(span, 1), 0);
            DUE.same("neither due nor overdue", x.span(span, 4), 0);
        }
        DUE.same("no entry", x.entries(), 0);
        DUE.same("no text", x.clearText(), 0);
        DUE.same("no saved state", x.undo(), QuietChecks.NOT_POSSIBLE);
        DUE.same("no check", x.giveUp(), QuietChecks.NOT_POSSIBLE);
        DUE.same("none comes next", x.nextCheck(), QuietChecks.NONE);
    }

    @Says(promise = 2, words = "Changes a setting;")
    static void setChangesOne() {
        for (int setting = 0; setting < 5; setting++) {
            QuietChecks x = new QuietChecks();
            x.set(setting, HIGHEST[setting]);
            for (int other = 0; other < 5; other++) {
                DUE.same("setting(" + other + ")", x.setting(other), other == setting ? HIGHEST[other] : FIRST[other]);
            }
        }
    }

    @Says(promise = 2, words = "a check that has begun takes as many ticks as before.")
    static void setLeavesACheck() {
        QuietChecks x = Disks.eager();
        x.spot(2, 3);
        x.ask(2);
        x.quiet(1);
        for (int setting = 1; setting < 4; setting++) {
            x.set(setting, HIGHEST[setting]);
            DUE.same("count(7) after the highest " + setting, x.count(7), 19);
            x.set(setting, LOWEST[setting]);
            DUE.same("count(7) after the lowest " + setting, x.count(7), 19);
        }
        DUE.same("a tick less", x.quiet(17), 0);
        DUE.same("all of them", x.quiet(1), 1);
    }

    @Says(promise = 2, words = "Undoable.")
    static void setUndoable() {
        for (int setting = 0; setting < 5; setting++) {
            int which = setting;
            EdgesOfUndoTest.undoable(DUE, x -> x.set(which, LOWEST[which]));
            EdgesOfUndoTest.undoable(DUE, x -> x.set(which, HIGHEST[which]));
        }
        QuietChecks x = new QuietChecks();
        DUE.same("also if the value is as before", x.set(0, 5), 5);
        DUE.same("a state is saved", x.undo(), 0);
    }

    @Says(promise = 2, words = "`setting`: 0 to 4")
    static void setSetting() {
        QuietChecks x = new QuietChecks();
        DUE.same("one below", x.set(-1, 5), QuietChecks.NO_SUCH);
        DUE.same("the lowest", x.set(0, 6), 5);
        DUE.same("the highest", x.set(4, 401), 400);
        DUE.same("one above", x.set(5, 5), QuietChecks.NO_SUCH);
    }

    @Says(promise = 2, words = "Returns the previous value;")
    static void setAnswers() {
        for (int setting = 0; setting < 5; setting++) {
            QuietChecks x = new QuietChecks();
            DUE.same("the first value", x.set(setting, LOWEST[setting]), FIRST[setting]);
            DUE.same("the lowest", x.set(setting, HIGHEST[setting]), LOWEST[setting]);
            DUE.same("the highest", x.set(setting, HIGHEST[setting]), HIGHEST[setting]);
            x.undo();
            x.undo();
            DUE.same("the lowest, by undo", x.set(setting, FIRST[setting]), LOWEST[setting]);
        }
    }

    @Says(promise = 2, words = "NO_SUCH if there is no such setting;")
    static void setNoSuch() {
        for (int setting : new int[] {-1, 5}) {
            Refusals.everywhere(DUE, "set(" + setting + ", 5)", QuietChecks.NO_SUCH, x -> x.set(setting, 5));
            Refusals.everywhere(DUE, "set(" + setting + ", -1)", QuietChecks.NO_SUCH, x -> x.set(setting, -1));
        }
        for (int setting : Disks.FAR) {
            DUE.same("set(" + setting + ", 5)", new QuietChecks().set(setting, 5), QuietChecks.NO_SUCH);
        }
    }

    @Says(promise = 2, words = "BAD_VALUE if value is out of its range.")
    static void setBadValue() {
        for (int setting = 0; setting < 5; setting++) {
            int which = setting;
            for (int value : new int[] {LOWEST[which] - 1, HIGHEST[which] + 1}) {
                Refusals.everywhere(DUE, "set(" + which + ", " + value + ")", QuietChecks.BAD_VALUE,
                        x -> x.set(which, value));
            }
            for (int value : Disks.FAR) {
                DUE.same("set(" + which + ", " + value + ")", new QuietChecks().set(which, value), QuietChecks.BAD_VALUE);
            }
        }
    }

    @Says(promise = 3, words = "Changes the way to choose.")
    static void setWay() {
        QuietChecks x = Disks.quick();
        x.ask(0);
        x.quiet(1);
        x.ask(5);
        x.quiet(1);
        x.spot(3, 1);
        x.read(7, 200);
        x.read(7, 2);
        // all are due; 0 is younger than others; 3 is the worst; 5 ended last
        DUE.same("the oldest", x.nextCheck(), 1);
        x.setWay(1);
        DUE.same("the worst", x.nextCheck(), 3);
        x.setWay(2);
        DUE.same("in the row", x.nextCheck(), 6);
        x.setWay(0);
        DUE.same("the oldest again", x.nextCheck(), 1);
    }

    @Says(promise = 3, words = "Undoable.")
    static void setWayUndoable() {
        for (int way = 0; way < 3; way++) {
            int which = way;
            EdgesOfUndoTest.undoable(DUE, x -> x.setWay(which));
        }
    }

    @Says(promise = 3, words = "`way`: 0 for \"oldest\", 1 for \"worst\", 2 for \"row\"")
    static void setWayWay() {
        QuietChecks x = new QuietChecks();
        DUE.same("one below", x.setWay(-1), QuietChecks.BAD_VALUE);
        String[] names = {"oldest", "worst", "row"};
        for (int way = 0; way < 3; way++) {
            DUE.holds("way " + way, x.setWay(way) >= 0);
            DUE.same("count(4)", x.count(4), way);
            QuietChecks y = Disks.with("way " + names[way]);
            y.carryOut();
            DUE.same(names[way], y.count(4), way);
        }
        DUE.same("one above", x.setWay(3), QuietChecks.BAD_VALUE);
    }

    @Says(promise = 3, words = "Returns the previous way, initially 0;")
    static void setWayAnswers() {
        QuietChecks x = new QuietChecks();
        DUE.same("initially", x.setWay(2), 0);
        DUE.same("then", x.setWay(1), 2);
        DUE.same("then", x.setWay(1), 1);
        DUE.same("then", x.setWay(0), 1);
        DUE.same("then", x.setWay(0), 0);
    }

    @Says(promise = 3, words = "BAD_VALUE if way is out of range.")
    static void setWayBadValue() {
        for (int way : new int[] {-1, 3}) {
            Refusals.everywhere(DUE, "setWay(" + way + ")", QuietChecks.BAD_VALUE, x -> x.setWay(way));
        }
        for (int way : Disks.FAR) {
            DUE.same("setWay(" + way + ")", new QuietChecks().setWay(way), QuietChecks.BAD_VALUE);
        }
    }

    @Says(promise = 4, words = "Adds spares.")
    static void addSpares() {
        QuietChecks x = new QuietChecks();
        x.addSpares(3);
        DUE.same("count(3)", x.count(3), 9);
        x.addSpares(1);
        DUE.same("count(3)", x.count(3), 10);
    }

    @Says(promise = 4, words = "Undoable.")
    static void addSparesUndoable() {
        EdgesOfUndoTest.undoable(DUE, x -> x.addSpares(1));
        EdgesOfUndoTest.undoable(DUE, x -> x.addSpares(9));
    }

    @Says(promise = 4, words = "`spares`: 1 to 9")
    static void addSparesSpares() {
        QuietChecks x = new QuietChecks();
        DUE.same("one below", x.addSpares(0), QuietChecks.BAD_VALUE);
        DUE.same("the fewest", x.addSpares(1), 7);
        DUE.same("the most", x.addSpares(9), 16);
        DUE.same("one above", x.addSpares(10), QuietChecks.BAD_VALUE);
    }

    @Says(promise = 4, words = "Returns the number of spares then;")
    static void addSparesAnswers() {
        QuietChecks x = Disks.quick();
        for (int i = 0; i < 7; i++) {
            x.spot(0, 9);
        }
        x.ask(0);
        x.quiet(36);
        DUE.same("from none", x.addSpares(1), 1);
        DUE.same("from one", x.addSpares(9), 10);
    }

    @Says(promise = 4, words = "BAD_VALUE if spares is out of range;")
    static void addSparesBadValue() {
        for (int spares : new int[] {-1, 0, 10}) {
            Refusals.everywhere(DUE, "addSpares(" + spares + ")", QuietChecks.BAD_VALUE, x -> x.addSpares(spares));
        }
        for (int spares : Disks.FAR) {
            DUE.same("addSpares(" + spares + ")", new QuietChecks().addSpares(spares), QuietChecks.BAD_VALUE);
            DUE.same("it is named first", Disks.full().addSpares(spares), QuietChecks.BAD_VALUE);
        }
    }

    private static QuietChecks spares(int spares) {
        QuietChecks x = new QuietChecks();
        while (x.count(3) < spares) {
            x.addSpares(Math.min(9, spares - x.count(3)));
        }
        return x;
    }

    @Says(promise = 4, words = "LIMIT if there would be more than 50.")
    static void addSparesLimit() {
        DUE.same("41 and 9 are 50", spares(41).addSpares(9), 50);
        DUE.same("49 and 1 are 50", spares(49).addSpares(1), 50);
        Refusals.refused(DUE, "42 and 9 are 51", QuietChecks.LIMIT, () -> spares(42), x -> x.addSpares(9));
        Refusals.refused(DUE, "50 and 1 are 51", QuietChecks.LIMIT, () -> spares(50), x -> x.addSpares(1));
        Refusals.refused(DUE, "with all else full", QuietChecks.LIMIT, Disks::full, x -> x.addSpares(1));
        QuietChecks x = spares(50);
        x.spot(0, 9);
        x.ask(0);
        x.quiet(60);
        DUE.same("one is used", x.addSpares(1), 50);
    }

    @Says(promise = 12, words = "Returns a setting.")
    static void setting() {
        QuietChecks x = new QuietChecks();
        for (int setting = 0; setting < 5; setting++) {
            DUE.same("setting(" + setting + ")", x.setting(setting), FIRST[setting]);
        }
    }

    @Says(promise = 12, words = "`setting`: 0 to 4")
    static void settingSetting() {
        QuietChecks x = new QuietChecks();
        DUE.same("one below", x.setting(-1), QuietChecks.NO_SUCH);
        DUE.same("the first", x.setting(0), 5);
        DUE.same("the last", x.setting(4), 400);
        DUE.same("one above", x.setting(5), QuietChecks.NO_SUCH);
    }

    @Says(promise = 12, words = "Returns the value;")
    static void settingAnswers() {
        QuietChecks x = new QuietChecks();
        for (int setting = 0; setting < 5; setting++) {
            x.set(setting, LOWEST[setting]);
            DUE.same("the lowest", x.setting(setting), LOWEST[setting]);
            x.set(setting, HIGHEST[setting]);
            DUE.same("the highest", x.setting(setting), HIGHEST[setting]);
            x.undo();
            DUE.same("the lowest again", x.setting(setting), LOWEST[setting]);
        }
    }

    @Says(promise = 12, words = "NO_SUCH if there is no such setting.")
    static void settingNoSuch() {
        Refusals.everywhere(DUE, "setting(-1)", QuietChecks.NO_SUCH, x -> x.setting(-1));
        Refusals.everywhere(DUE, "setting(5)", QuietChecks.NO_SUCH, x -> x.setting(5));
        for (int setting : Disks.FAR) {
            DUE.same("setting(" + setting + ")", new QuietChecks().setting(setting), QuietChecks.NO_SUCH);
        }
    }
}
