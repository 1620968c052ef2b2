import java.io.IOException;

/** The edges of "Terms", up to the checks: numbers, ticks, settings, spans, spots, what a check takes and leaves. */
public final class EdgesOfDiskTest {
    private static final Due DUE = new Due("EdgesOfDiskTest");

    public static void main(String[] args) throws IOException, ReflectiveOperationException {
        Edges.run(EdgesOfDiskTest.class, DUE);
    }

    @Says(words = "Everything is numbered from 0.")
    static void numberedFromZero() {
        QuietChecks x = Disks.quick();
        DUE.same("setting(0) is the wait", x.setting(0), 0);
        DUE.same("the first place in the list", x.ask(0), 0);
        DUE.same("span(0, 6)", x.span(0, 6), 0);
        x.spot(0, 4);
        DUE.same("tries(0, 0)", x.tries(0, 0), 4);
        DUE.same("tries(0, 1)", x.tries(0, 1), QuietChecks.NO_SUCH);
        x.quiet(1);
        DUE.same("entry(0, 1)", x.entry(0, 1), 1);
        DUE.same("entry(1, 1)", x.entry(1, 1), QuietChecks.NO_SUCH);
        DUE.same("lineAt(0, 0)", x.lineAt(0, 0), '1');
        DUE.same("setWay(0)", x.setWay(0), 0);
    }

    @Says(words = "All divisions round down.")
    static void divisionsRoundDown() {
        int[][] ages = {{50, 25}, {51, 25}, {52, 26}, {399, 199}, {400, 200}, {401, 200}, {1999, 999}};
        for (int[] age : ages) {
            QuietChecks x = new QuietChecks();
            x.set(4, age[0]);
            Disks.pass(x, 0, age[1] - 1);
            DUE.same("a tick before half of " + age[0], x.span(3, 4), 0);
            x.read(0, 1);
            DUE.same("half of " + age[0], x.span(3, 4), 1);
        }
    }

    @Says(words = "the current tick is 0 in a new object")
    static void firstTick() {
        DUE.same("count(0)", new QuietChecks().count(0), 0);
    }

    @Says(words = "and at most 99999")
    static void lastTick() {
        QuietChecks x = Disks.late(99998);
        DUE.holds("quiet(1)", x.quiet(1) >= 0);
        DUE.same("count(0)", x.count(0), 99999);
        DUE.same("quiet(1) more", x.quiet(1), QuietChecks.LIMIT);
        DUE.same("read(0, 1) more", x.read(0, 1), QuietChecks.LIMIT);
        Due.text(x, "quiet 1");
        DUE.same("quiet 1 in a plan", x.carryOut(), 0);
        Due.text(x, "read 0:1");
        DUE.same("read 0:1 in a plan", x.carryOut(), 0);
        DUE.same("count(0) stays", x.count(0), 99999);
        QuietChecks y = Disks.late(99998);
        DUE.same("read(0, 1)", y.read(0, 1), 0);
        DUE.same("count(0) of the other one", y.count(0), 99999);
    }

    @Says(words = "(forecasts may go beyond)")
    static void forecastsGoBeyondTheLastTick() {
        QuietChecks x = new QuietChecks();
        Disks.pass(x, 0, 99999);
        // 5 ticks to wait, then checks of 10 ticks each, the oldest span first: 0 at 100014, 7 at 100084
        DUE.same("checkedIn(0)", x.checkedIn(0), 15);
        DUE.same("checkedIn(7)", x.checkedIn(7), 85);
        DUE.same("ifQuiet(14)", x.ifQuiet(14), 8);
        DUE.same("ifQuiet(15)", x.ifQuiet(15), 7);
        DUE.same("ifQuiet(84)", x.ifQuiet(84), 1);
        DUE.same("ifQuiet(85)", x.ifQuiet(85), 0);
        DUE.same("count(0)", x.count(0), 99999);
        QuietChecks y = Disks.eager();
        y.ask(3);
        y.quiet(10);
        Disks.pass(y, 0, 99989);
        y.spot(0, 5);
        // "row" takes 4 first, for 10 ticks, the others 0, for 25
        DUE.same("bestWay(9)", y.bestWay(9), 0);
        DUE.same("bestWay(10)", y.bestWay(10), 2);
    }

    @Says(words = "(forecasts may go beyond)")
    static void agesGrowBeyondTheLastTick() {
        QuietChecks x = Disks.late(99980);
        x.set(0, 0);
        x.set(1, 1);
        x.set(4, 50);
        x.giveUp();
        for (int span = 0; span < 8; span++) {
            x.ask(span);
            x.quiet(1);
            DUE.same("stamp", x.span(span, 0), 99981 + span);
        }
        x.read(0, 11);
        DUE.same("count(0)", x.count(0), 99999);
        DUE.same("none is due", x.nextCheck(), QuietChecks.NONE);
        DUE.same("0 is due at 100006", x.checkedIn(0), 7);
        DUE.same("7 is due at 100013", x.checkedIn(7), 14);
        x.set(1, 40);
        // 0 is checked from 100006 to 100045, and is overdue at 100032, 1 at 100033
        DUE.same("ifQuiet(32)", x.ifQuiet(32), 0);
        DUE.same("ifQuiet(33)", x.ifQuiet(33), 1);
        DUE.same("ifQuiet(34)", x.ifQuiet(34), 2);
        DUE.same("ifQuiet(45)", x.ifQuiet(45), 8);
        DUE.same("ifQuiet(46)", x.ifQuiet(46), 7);
    }

    /** The first value of a setting, both ends of its range, and both values next to them. */
    private static void range(int setting, int lowest, int highest, int first) {
        QuietChecks x = new QuietChecks();
        DUE.same("setting(" + setting + ") at first", x.setting(setting), first);
        DUE.same("set to the lowest", x.set(setting, lowest), first);
        DUE.same("setting(" + setting + ") is the lowest", x.setting(setting), lowest);
        DUE.same("set to the highest", x.set(setting, highest), lowest);
        DUE.same("setting(" + setting + ") is the highest", x.setting(setting), highest);
        DUE.same("one below", x.set(setting, lowest - 1), QuietChecks.BAD_VALUE);
        DUE.same("one above", x.set(setting, highest + 1), QuietChecks.BAD_VALUE);
        DUE.same("setting(" + setting + ") stays", x.setting(setting), highest);
    }

    @Says(words = "0: wait, 0 to 50, 5: the number of quiet ticks before checks work")
    static void settingWait() {
        range(0, 0, 50, 5);
        for (int wait : new int[] {0, 1, 5, 49, 50}) {
            QuietChecks x = new QuietChecks();
            x.set(0, wait);
            x.ask(3);
            for (int tick = 0; tick < wait; tick++) {
                x.quiet(1);
            }
            DUE.same("after a wait of " + wait, x.count(5), QuietChecks.NONE);
            x.quiet(1);
            DUE.same("one tick after a wait of " + wait, x.count(5), 3);
        }
    }

    @Says(words = "1: span, 1 to 40, 10: the ticks that a check of a span takes without spots")
    static void settingSpan() {
        range(1, 1, 40, 10);
        for (int span : new int[] {1, 2, 10, 39, 40}) {
            QuietChecks x = Disks.eager();
            x.set(1, span);
            x.ask(3);
            DUE.same("span(3, 5)", x.span(3, 5), span);
            for (int tick = 1; tick < span; tick++) {
                DUE.same("tick " + tick + " of " + span, x.quiet(1), 0);
            }
            DUE.same("tick " + span, x.quiet(1), 1);
        }
    }

    @Says(words = "2: try, 1 to 9, 3: the ticks that a try at a spot takes")
    static void settingTry() {
        range(2, 1, 9, 3);
        QuietChecks x = new QuietChecks();
        x.spot(3, 2);
        DUE.same("tries of 3", x.span(3, 5), 16);
        x.set(2, 1);
        DUE.same("tries of 1", x.span(3, 5), 12);
        x.set(2, 9);
        DUE.same("tries of 9", x.span(3, 5), 28);
    }

    @Says(words = "3: limit, 2 to 9, 5: the number of tries at which a spot is replaced")
    static void settingLimit() {
        range(3, 2, 9, 5);
        for (int limit : new int[] {2, 5, 9}) {
            QuietChecks x = Disks.quick();
            x.set(3, limit);
            x.spot(3, limit - 1);
            x.spot(3, limit);
            x.ask(3);
            x.quiet(2 * limit);
            DUE.spots("by the limit " + limit, x, 3, limit);
            DUE.same("replaced by the limit " + limit, x.count(11), 1);
        }
    }

    @Says(words = "4: age, 50 to 2000, 400: within so many ticks each span should be checked again")
    static void settingAge() {
        range(4, 50, 2000, 400);
        for (int age : new int[] {50, 51, 400, 2000}) {
            QuietChecks x = new QuietChecks();
            x.set(4, age);
            Disks.pass(x, 0, age);
            DUE.same("at " + age, x.overdue(), 0);
            x.read(0, 1);
            DUE.same("behind " + age, x.overdue(), 8);
        }
    }

    @Says(words = "The disk has 8 spans.")
    static void eightSpans() {
        for (int span = 0; span < 8; span++) {
            DUE.same("spot", new QuietChecks().spot(span, 1), 1);
            DUE.same("ask", new QuietChecks().ask(span), 0);
            DUE.same("span", new QuietChecks().span(span, 0), 0);
        }
        for (int span : new int[] {-1, 8}) {
            DUE.same("spot(" + span + ")", new QuietChecks().spot(span, 1), QuietChecks.NO_SUCH);
            DUE.same("ask(" + span + ")", new QuietChecks().ask(span), QuietChecks.NO_SUCH);
            DUE.same("span(" + span + ")", new QuietChecks().span(span, 0), QuietChecks.NO_SUCH);
        }
        QuietChecks x = Disks.quick();
        x.quiet(200);
        DUE.same("the first seven are checked", x.quiet(6), 6);
        DUE.same("the last is not yet", x.span(7, 0), 0);
        DUE.same("then the last", x.quiet(1), 1);
        DUE.same("its stamp", x.span(7, 0), 207);
        DUE.same("and no other", x.quiet(1), 0);
    }

    @Says(words = "A span has a stamp, the tick at which its latest check ended, 0 at first;")
    static void stamp() {
        QuietChecks x = Disks.eager();
        DUE.same("at first", x.span(2, 0), 0);
        x.ask(2);
        x.quiet(9);
        DUE.same("while it is checked", x.span(2, 0), 0);
        x.quiet(1);
        DUE.same("checked", x.span(2, 0), 10);
        DUE.same("another one", x.span(3, 0), 0);
        x.ask(2);
        x.quiet(9);
        DUE.same("while it is checked again", x.span(2, 0), 10);
        x.quiet(1);
        DUE.same("checked again", x.span(2, 0), 20);
    }

    @Says(words = "its age is the current tick minus the stamp.")
    static void age() {
        QuietChecks x = Disks.eager();
        DUE.same("at first", x.span(2, 1), 0);
        x.ask(2);
        x.quiet(9);
        DUE.same("never checked", x.span(2, 1), 9);
        x.quiet(1);
        DUE.same("when its check ends", x.span(2, 1), 0);
        x.quiet(1);
        DUE.same("one tick later", x.span(2, 1), 1);
        QuietChecks y = new QuietChecks();
        Disks.pass(y, 0, 99999);
        DUE.same("at the last tick", y.span(7, 1), 99999);
        DUE.same("the stamp is the first tick", y.span(7, 0), 0);
    }

    @Says(words = "A span is overdue if its age is greater than the setting age")
    static void overdue() {
        QuietChecks x = Disks.quick();
        x.ask(6);
        x.quiet(1);
        x.set(4, 50);
        x.read(0, 49);
        DUE.same("an age of 50", x.span(5, 4), 1);
        DUE.same("overdue()", x.overdue(), 0);
        x.read(0, 1);
        DUE.same("an age of 51", x.span(5, 4), 2);
        DUE.same("an age of 50", x.span(6, 4), 1);
        DUE.same("overdue()", x.overdue(), 7);
        x.set(4, 51);
        DUE.same("by the setting as it is", x.overdue(), 0);
    }

    @Says(words = "it is due if its age is at least (the setting age) / 2.")
    static void due() {
        QuietChecks x = Disks.quick();
        x.ask(0);
        x.quiet(1);
        x.set(4, 50);
        x.read(0, 23);
        DUE.same("an age of 24", x.span(5, 4), 0);
        DUE.same("none is chosen", x.nextCheck(), QuietChecks.NONE);
        x.read(0, 1);
        DUE.same("an age of 25", x.span(5, 4), 1);
        DUE.same("an age of 24", x.span(0, 4), 0);
        DUE.same("the first with an age of 25 is chosen", x.nextCheck(), 1);
        x.set(4, 52);
        DUE.same("by the setting as it is", x.span(5, 4), 0);
        DUE.same("none is chosen", x.nextCheck(), QuietChecks.NONE);
    }

    @Says(words = "There are at most 20 spots.")
    static void twentySpots() {
        QuietChecks x = Disks.quick();
        for (int i = 0; i < 19; i++) {
            DUE.same("all in one span", x.spot(3, 1), i + 1);
        }
        DUE.same("the last one", x.spot(4, 9), 1);
        DUE.same("in that span", x.spot(3, 1), QuietChecks.LIMIT);
        DUE.same("in another span", x.spot(5, 1), QuietChecks.LIMIT);
        DUE.same("count(2)", x.count(2), 20);
        x.ask(4);
        x.quiet(6);
        DUE.same("one is replaced", x.count(2), 19);
        DUE.same("there is room for one", x.spot(5, 1), 1);
        DUE.same("and no more", x.spot(5, 1), QuietChecks.LIMIT);
        x.undo();
        DUE.same("there is room again", x.spot(6, 1), 1);
        DUE.same("and no more", x.spot(6, 1), QuietChecks.LIMIT);
    }

    @Says(words = "A spot has a span and a number of tries, 1 to 9.")
    static void triesOfASpot() {
        QuietChecks x = Disks.quick();
        DUE.same("one below", x.spot(0, 0), QuietChecks.BAD_VALUE);
        DUE.same("one above", x.spot(0, 10), QuietChecks.BAD_VALUE);
        DUE.same("the fewest", x.spot(0, 1), 1);
        DUE.same("the most", x.spot(7, 9), 1);
        DUE.spots("the fewest", x, 0, 1);
        DUE.spots("the most", x, 7, 9);
        x.set(3, 9);
        for (int i = 0; i < 6; i++) {
            x.spot(6, 9);
        }
        x.ask(6);
        x.quiet(55);
        DUE.same("no spare is left", x.count(3), 0);
        x.spot(7, 8);
        for (int check = 0; check < 3; check++) {
            x.ask(7);
            x.quiet(19);
            DUE.spots("9 do not become 10, check " + check, x, 7, 9, 9);
        }
    }

    @Says(words = "The spots of a span are in the order in which they were added.")
    static void orderOfSpots() {
        QuietChecks x = Disks.quick();
        x.spot(2, 9);
        x.spot(0, 1);
        x.spot(2, 3);
        x.spot(0, 2);
        x.spot(2, 1);
        DUE.spots("as added", x, 2, 9, 3, 1);
        DUE.spots("as added", x, 0, 1, 2);
        x.ask(2);
        x.quiet(10);
        DUE.spots("one is gone", x, 2, 4, 2);
        DUE.spots("another span", x, 0, 1, 2);
        x.spot(2, 1);
        DUE.spots("a new one comes last", x, 2, 4, 2, 1);
    }

    @Says(words = "There are 6 spares at first.")
    static void sparesAtFirst() {
        QuietChecks x = Disks.quick();
        DUE.same("count(3)", x.count(3), 6);
        for (int i = 0; i < 7; i++) {
            x.spot(1, 5);
        }
        x.ask(1);
        x.quiet(36);
        DUE.same("six of seven are replaced", x.count(11), 6);
        DUE.same("count(3)", x.count(3), 0);
    }

    private static int checkTicks(int limit, int... tries) {
        QuietChecks x = new QuietChecks();
        x.set(3, limit);
        for (int one : tries) {
            x.spot(4, one);
        }
        x.spot(5, 9);
        return x.span(4, 5);
    }

    @Says(words = "but of each at most the limit")
    static void ticksOfACheck() {
        DUE.same("no spot", checkTicks(5), 10);
        DUE.same("below the limit", checkTicks(5, 4), 22);
        DUE.same("at the limit", checkTicks(5, 5), 25);
        DUE.same("beyond the limit", checkTicks(5, 6), 25);
        DUE.same("of each", checkTicks(5, 9, 4, 9), 52);
        DUE.same("the lowest limit", checkTicks(2, 1, 2, 3), 25);
        DUE.same("the highest limit", checkTicks(9, 8, 9), 61);
    }

    @Says(words = "A check of a span takes span + try * (the sum of the tries of its spots, but of each at most the limit) ticks")
    static void longestCheck() {
        QuietChecks x = Disks.eager();
        x.set(1, 40);
        x.set(2, 9);
        x.set(3, 9);
        for (int i = 0; i < 20; i++) {
            x.spot(4, 9);
        }
        DUE.same("40 + 9 * 180", x.span(4, 5), 1660);
        x.ask(4);
        DUE.same("checkedIn(4)", x.checkedIn(4), 1660);
        x.quiet(500);
        x.quiet(500);
        x.quiet(500);
        DUE.same("count(7)", x.count(7), 1660);
        DUE.same("until 1659", x.quiet(159), 0);
        DUE.same("at 1660", x.quiet(1), 1);
        QuietChecks y = Disks.quick();
        y.ask(4);
        DUE.same("the shortest", y.quiet(1), 1);
    }

    @Says(words = "by the settings and spots as they are when it begins.")
    static void ticksAsTheyAreWhenItBegins() {
        QuietChecks x = new QuietChecks();
        x.ask(3);
        x.quiet(5);
        x.set(1, 20);
        x.spot(3, 2);
        x.quiet(1);
        DUE.same("changed just before", x.count(7), 26);
        x.set(1, 1);
        x.set(2, 9);
        x.set(3, 9);
        x.spot(3, 9);
        DUE.same("changed just behind", x.count(7), 26);
        DUE.same("one tick less", x.quiet(24), 0);
        DUE.same("all ticks", x.quiet(1), 1);
    }

    @Says(words = "if its tries are at least the limit (as it is then), it is replaced if there is a spare")
    static void limitWhenItEnds() {
        QuietChecks x = Disks.quick();
        x.spot(3, 3);
        x.spot(3, 2);
        x.ask(3);
        x.quiet(5);
        x.set(3, 3);
        x.spot(3, 4);
        DUE.same("it ends", x.quiet(1), 1);
        DUE.spots("a lower limit", x, 3, 3);
        DUE.same("replaced, the one added during the check too", x.count(11), 2);
        QuietChecks y = Disks.quick();
        y.spot(3, 5);
        y.ask(3);
        y.quiet(5);
        y.set(3, 6);
        DUE.same("it ends", y.quiet(1), 1);
        DUE.spots("a higher limit", y, 3, 6);
        DUE.same("replaced", y.count(11), 0);
    }

    @Says(words = "there is one spare less, and the spot is gone;")
    static void lastSpare() {
        QuietChecks x = Disks.quick();
        for (int i = 0; i < 5; i++) {
            x.spot(1, 5);
        }
        x.ask(1);
        x.quiet(26);
        DUE.same("one spare is left", x.count(3), 1);
        DUE.same("count(2)", x.count(2), 0);
        x.spot(2, 5);
        x.spot(2, 9);
        x.ask(2);
        x.quiet(11);
        DUE.same("none is left", x.count(3), 0);
        DUE.spots("the first one has the last spare", x, 2, 9);
        DUE.same("replaced", x.count(11), 6);
    }

    @Says(words = "if there is no spare, it stays as it is.")
    static void noSpare() {
        QuietChecks x = Disks.quick();
        for (int i = 0; i < 6; i++) {
            x.spot(1, 5);
        }
        x.ask(1);
        x.quiet(31);
        x.spot(2, 5);
        x.spot(2, 4);
        x.spot(2, 9);
        x.ask(2);
        x.quiet(15);
        DUE.spots("at the limit and beyond", x, 2, 5, 5, 9);
        DUE.same("spares are not less than none", x.count(3), 0);
        DUE.same("replaced", x.count(11), 6);
    }

    @Says(words = "If its tries are less than the limit, they become 1 more.")
    static void oneTryMore() {
        QuietChecks x = Disks.quick();
        x.spot(2, 1);
        x.spot(2, 4);
        x.spot(3, 1);
        x.ask(2);
        x.quiet(6);
        DUE.spots("1 more", x, 2, 2, 5);
        DUE.spots("another span's are as before", x, 3, 1);
        DUE.same("what reaches the limit is not replaced yet", x.count(11), 0);
        x.ask(2);
        x.quiet(8);
        DUE.spots("but in the next check", x, 2, 3);
    }
}
