import java.io.IOException;
import java.util.function.Supplier;

/** The edges of promises 20 to 22: checkedIn, ifQuiet, bestWay. */
public final class EdgesOfForecastsTest {
    private static final Due DUE = new Due("EdgesOfForecastsTest");
    private static final int[] NO_TICKS = {-1, 3001, Integer.MIN_VALUE, Integer.MAX_VALUE};

    public static void main(String[] args) throws IOException, ReflectiveOperationException {
        Edges.run(EdgesOfForecastsTest.class, DUE);
    }

    /** Lets quiet ticks pass, as many as a forecast may look at. */
    private static void quiet(QuietChecks x, int ticks) {
        for (int left = ticks; left > 0; left -= 500) {
            x.quiet(Math.min(left, 500));
        }
    }

    /** Checks of three spans take so long, again and again, that the others come late. */
    private static QuietChecks slowDisk() {
        QuietChecks x = new QuietChecks();
        x.set(1, 40);
        x.set(2, 9);
        x.set(3, 9);
        x.set(4, 2000);
        x.setWay(1);
        for (int i = 0; i < 20; i++) {
            x.spot(i % 3, 8);
        }
        return x;
    }

    /** Span 7 is dear to check, and span 4 was checked last. */
    private static QuietChecks uneven() {
        QuietChecks x = Disks.eager();
        x.set(1, 1);
        x.set(2, 9);
        x.set(3, 8);
        x.set(4, 50);
        x.spot(7, 9);
        x.ask(4);
        x.quiet(19);
        return x;
    }

    /** As uneven, but span 1 is dearer still, and span 0 was checked last. */
    private static QuietChecks moreUneven() {
        QuietChecks x = uneven();
        x.ask(0);
        x.quiet(1);
        x.spot(1, 9);
        return x;
    }

    @Says(words = "they change nothing.")
    static void theyChangeNothing() {
        for (int state = 0; state < Disks.ANY.size(); state++) {
            QuietChecks x = Disks.ANY.get(state).get();
            for (int span = 0; span < 8; span++) {
                x.checkedIn(span);
            }
            x.nextCheck();
            x.ifQuiet(0);
            x.ifQuiet(3000);
            x.bestWay(0);
            x.bestWay(3000);
            Refusals.alike(DUE, "state " + state, x, Disks.ANY.get(state).get());
        }
    }

    @Says(promise = 20, words = "Tells in how many ticks a check of a span ends")
    static void checkedIn() {
        for (int state = 0; state < 3; state++) {
            for (int span = 0; span < 8; span++) {
                QuietChecks x = Disks.ANY.get(state).get();
                int ticks = x.checkedIn(span);
                int before = x.span(span, 0);
                quiet(x, ticks - 1);
                DUE.same("a tick before, in state " + state, x.span(span, 0), before);
                DUE.same("a check ends", x.quiet(1), 1);
                DUE.same("it is that of span " + span, x.span(span, 0), x.count(0));
            }
        }
    }

    @Says(promise = 20, words = "if all ticks are quiet.")
    static void checkedInIfQuiet() {
        QuietChecks x = new QuietChecks();
        x.ask(3);
        DUE.same("5 ticks to wait, 10 to check", x.checkedIn(3), 15);
        x.quiet(6);
        DUE.same("9 ticks to check", x.checkedIn(3), 9);
        x.read(0, 100);
        DUE.same("5 ticks to wait, 10 to check, none is done", x.checkedIn(3), 15);
        x.quiet(13);
        x.read(0, 1);
        DUE.same("5 ticks to wait, 4 to check", x.checkedIn(3), 9);
    }

    @Says(promise = 20, words = "`span`: 0 to 7")
    static void checkedInSpan() {
        QuietChecks x = new QuietChecks();
        DUE.same("one below", x.checkedIn(-1), QuietChecks.NO_SUCH);
        DUE.same("the first", x.checkedIn(0), 209);
        DUE.same("the last", x.checkedIn(7), 279);
        DUE.same("one above", x.checkedIn(8), QuietChecks.NO_SUCH);
    }

    @Says(promise = 20, words = "Returns the number of ticks, 1 to 3000;")
    static void checkedInFewest() {
        QuietChecks x = Disks.quick();
        x.ask(3);
        DUE.same("a check of one tick", x.checkedIn(3), 1);
        QuietChecks y = Disks.eager();
        y.ask(3);
        y.quiet(9);
        DUE.same("the last tick of a check", y.checkedIn(3), 1);
    }

    @Says(promise = 20, words = "Returns the number of ticks, 1 to 3000;")
    static void checkedInMost() {
        QuietChecks x = slowDisk();
        quiet(x, 1600);
        int passed = 0;
        while (passed < 100 && x.checkedIn(7) == QuietChecks.NONE) {
            x.quiet(1);
            passed++;
        }
        DUE.holds("not too soon", passed > 0 && passed < 100);
        DUE.same("the first answer that is a number", x.checkedIn(7), 3000);
        quiet(x, 2999);
        DUE.same("a tick before", x.span(7, 0), 0);
        x.quiet(1);
        DUE.same("it ends then", x.span(7, 0), x.count(0));
    }

    @Says(promise = 20, words = "NO_SUCH if there is no such span;")
    static void checkedInNoSuch() {
        for (int span : new int[] {-1, 8, Integer.MIN_VALUE, Integer.MAX_VALUE}) {
            Refusals.everywhere(DUE, "checkedIn(" + span + ")", QuietChecks.NO_SUCH, x -> x.checkedIn(span));
        }
    }

    @Says(promise = 20, words = "NONE if none ends in 3000 ticks.")
    static void checkedInNone() {
        QuietChecks x = slowDisk();
        // the check of 7 ends at tick 4620, see ForecastTest
        quiet(x, 1619);
        DUE.same("it ends in 3001 ticks", x.checkedIn(7), QuietChecks.NONE);
        x.quiet(1);
        DUE.same("it ends in 3000 ticks", x.checkedIn(7), 3000);
    }

    @Says(promise = 21, words = "Tells how many spans would be overdue after some quiet ticks.")
    static void ifQuiet() {
        for (int ticks : new int[] {0, 1, 2, 30, 50, 51, 78, 79, 85, 90, 91, 500, 2999, 3000}) {
            for (int way = 0; way < 3; way++) {
                QuietChecks x = uneven();
                x.setWay(way);
                int spans = x.ifQuiet(ticks);
                quiet(x, ticks);
                DUE.same("after " + ticks + " by way " + way, spans, x.overdue());
            }
        }
        DUE.same("by \"oldest\"", uneven().ifQuiet(85), 6);
    }

    @Says(promise = 21, words = "`ticks`: 0 to 3000")
    static void ifQuietTicks() {
        QuietChecks x = new QuietChecks();
        x.set(0, 50);
        Disks.pass(x, 0, 401);
        DUE.same("one below", x.ifQuiet(-1), QuietChecks.BAD_VALUE);
        DUE.same("the fewest: now", x.ifQuiet(0), 8);
        DUE.same("before a check ends", x.ifQuiet(59), 8);
        DUE.same("when it ends", x.ifQuiet(60), 7);
        DUE.same("the most", x.ifQuiet(3000), 0);
        DUE.same("one above", x.ifQuiet(3001), QuietChecks.BAD_VALUE);
    }

    @Says(promise = 21, words = "Returns the number;")
    static void ifQuietAnswers() {
        QuietChecks x = Disks.quick();
        x.set(4, 50);
        Disks.pass(x, 0, 60);
        for (int ticks = 0; ticks <= 8; ticks++) {
            DUE.same("one more is checked in each tick", x.ifQuiet(ticks), 8 - ticks);
        }
    }

    @Says(promise = 21, words = "BAD_VALUE if ticks is out of range.")
    static void ifQuietBadValue() {
        for (int ticks : NO_TICKS) {
            Refusals.everywhere(DUE, "ifQuiet(" + ticks + ")", QuietChecks.BAD_VALUE, x -> x.ifQuiet(ticks));
        }
    }

    /** The answer, whatever the way that is set is; and the spans that would be overdue by each way. */
    private static void best(String when, Supplier<QuietChecks> maker, int ticks, int want, int... spans) {
        for (int way = 0; way < 3; way++) {
            QuietChecks x = maker.get();
            x.setWay(way);
            DUE.same(when + ", way " + way + " is set", x.bestWay(ticks), want);
            DUE.same(when + ", the way stays", x.count(4), way);
            quiet(x, ticks);
            DUE.same(when + ", by way " + way, x.overdue(), spans[way]);
        }
    }

    @Says(promise = 22, words = "Finds the way by which the fewest spans would be overdue after some quiet ticks;")
    static void bestWay() {
        best("\"worst\" is alone", EdgesOfForecastsTest::uneven, 85, 1, 6, 0, 2);
        best("\"worst\" is one better than both", EdgesOfForecastsTest::uneven, 78, 1, 8, 7, 8);
        best("\"row\" is alone", EdgesOfForecastsTest::moreUneven, 82, 2, 3, 7, 2);
        best("\"oldest\" is alone", EdgesOfForecastsTest::uneven, 57, 0, 3, 8, 7);
    }

    @Says(promise = 22, words = "of several the lowest.")
    static void bestWayOfSeveral() {
        best("all are alike", EdgesOfForecastsTest::uneven, 0, 0, 0, 0, 0);
        best("all are as bad", EdgesOfForecastsTest::uneven, 62, 0, 8, 8, 8);
        best("\"worst\" and \"row\"", EdgesOfForecastsTest::uneven, 90, 1, 1, 0, 0);
        best("\"oldest\" and \"row\"", EdgesOfForecastsTest::moreUneven, 81, 0, 3, 7, 3);
        best("\"oldest\" and \"worst\"", EdgesOfForecastsTest::moreUneven, 161, 0, 0, 0, 1);
    }

    @Says(promise = 22, words = "`ticks`: 0 to 3000")
    static void bestWayTicks() {
        QuietChecks x = new QuietChecks();
        x.setWay(2);
        DUE.same("one below", x.bestWay(-1), QuietChecks.BAD_VALUE);
        DUE.same("the fewest", x.bestWay(0), 0);
        DUE.same("the most", x.bestWay(3000), 0);
        DUE.same("one above", x.bestWay(3001), QuietChecks.BAD_VALUE);
    }

    @Says(promise = 22, words = "Returns the way;")
    static void bestWayAnswers() {
        for (int state = 0; state < 3; state++) {
            QuietChecks x = Disks.ANY.get(state).get();
            for (int ticks : new int[] {0, 1, 100, 1000, 3000}) {
                int best = 0;
                int fewest = 9;
                for (int way = 0; way < 3; way++) {
                    x.setWay(way);
                    int spans = x.ifQuiet(ticks);
                    best = spans < fewest ? way : best;
                    fewest = Math.min(spans, fewest);
                    x.undo();
                }
                DUE.same("as ifQuiet tells by each way, in state " + state, x.bestWay(ticks), best);
            }
        }
    }

    @Says(promise = 22, words = "BAD_VALUE if ticks is out of range.")
    static void bestWayBadValue() {
        for (int ticks : NO_TICKS) {
            Refusals.everywhere(DUE, "bestWay(" + ticks + ")", QuietChecks.BAD_VALUE, x -> x.bestWay(ticks));
        }
    }
}
