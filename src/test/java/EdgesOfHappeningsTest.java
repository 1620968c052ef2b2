import java.io.IOException;
import java.util.function.Supplier;

/** The edges of promises 5 to 10: spot, ask, unask, read, quiet, giveUp. */
public final class EdgesOfHappeningsTest {
    private static final Due DUE = new Due("EdgesOfHappeningsTest");
    private static final int[] NO_SPANS = {-1, 8, Integer.MIN_VALUE, Integer.MAX_VALUE};

    public static void main(String[] args) throws IOException, ReflectiveOperationException {
        Edges.run(EdgesOfHappeningsTest.class, DUE);
    }

    private static QuietChecks spots(int spots) {
        QuietChecks x = new QuietChecks();
        for (int i = 0; i < spots; i++) {
            x.spot(i % 8, 1);
        }
        return x;
    }

    private static QuietChecks asked(int... spans) {
        QuietChecks x = Disks.eager();
        for (int span : spans) {
            x.ask(span);
        }
        return x;
    }

    /** The check of the span has begun and is done by 1 tick. */
    private static QuietChecks begun(int span) {
        QuietChecks x = asked(span);
        x.quiet(1);
        return x;
    }

    @Says(promise = 5, words = "Adds a spot to a span.")
    static void spotAdds() {
        QuietChecks x = new QuietChecks();
        x.spot(3, 4);
        DUE.spots("the span", x, 3, 4);
        DUE.spots("another span", x, 2);
        DUE.same("count(2)", x.count(2), 1);
    }

    @Says(promise = 5, words = "Undoable.")
    static void spotUndoable() {
        EdgesOfUndoTest.undoable(DUE, x -> x.spot(0, 1));
        EdgesOfUndoTest.undoable(DUE, x -> x.spot(7, 9));
    }

    @Says(promise = 5, words = "`span`: 0 to 7")
    static void spotSpan() {
        DUE.same("one below", new QuietChecks().spot(-1, 5), QuietChecks.NO_SUCH);
        DUE.same("the first", new QuietChecks().spot(0, 5), 1);
        DUE.same("the last", new QuietChecks().spot(7, 5), 1);
        DUE.same("one above", new QuietChecks().spot(8, 5), QuietChecks.NO_SUCH);
    }

    @Says(promise = 5, words = "`tries`: 1 to 9")
    static void spotTries() {
        QuietChecks x = new QuietChecks();
        DUE.same("one below", x.spot(3, 0), QuietChecks.BAD_VALUE);
        DUE.same("the fewest", x.spot(3, 1), 1);
        DUE.same("the most", x.spot(3, 9), 2);
        DUE.same("one above", x.spot(3, 10), QuietChecks.BAD_VALUE);
        DUE.spots("as given", x, 3, 1, 9);
    }

    @Says(promise = 5, words = "Returns the number of spots of the span then;")
    static void spotAnswers() {
        QuietChecks x = Disks.quick();
        DUE.same("the first", x.spot(3, 5), 1);
        DUE.same("of another span", x.spot(4, 1), 1);
        DUE.same("the second", x.spot(3, 1), 2);
        x.ask(3);
        x.quiet(7);
        DUE.same("one was replaced", x.spot(3, 1), 2);
    }

    @Says(promise = 5, words = "NO_SUCH if there is no such span;")
    static void spotNoSuch() {
        for (int span : NO_SPANS) {
            Refusals.everywhere(DUE, "spot(" + span + ", 5)", QuietChecks.NO_SUCH, x -> x.spot(span, 5));
            Refusals.everywhere(DUE, "spot(" + span + ", 0)", QuietChecks.NO_SUCH, x -> x.spot(span, 0));
        }
    }

    @Says(promise = 5, words = "BAD_VALUE if tries is out of range;")
    static void spotBadValue() {
        for (int tries : new int[] {0, 10, Integer.MIN_VALUE, Integer.MAX_VALUE}) {
            Refusals.everywhere(DUE, "spot(0, " + tries + ")", QuietChecks.BAD_VALUE, x -> x.spot(0, tries));
            Refusals.everywhere(DUE, "spot(7, " + tries + ")", QuietChecks.BAD_VALUE, x -> x.spot(7, tries));
        }
    }

    @Says(promise = 5, words = "LIMIT if there are 20 spots.")
    static void spotLimit() {
        DUE.same("the 20th", spots(19).spot(7, 1), 3);
        for (int span = 0; span < 8; span++) {
            int which = span;
            Refusals.refused(DUE, "the 21st in " + span, QuietChecks.LIMIT, () -> spots(20), x -> x.spot(which, 1));
        }
        Refusals.refused(DUE, "with all else full", QuietChecks.LIMIT, Disks::full, x -> x.spot(0, 9));
    }

    @Says(promise = 6, words = "Asks for a check of a span by hand.")
    static void askAsks() {
        QuietChecks x = Disks.eager();
        x.ask(5);
        DUE.same("count(8)", x.count(8), 1);
        DUE.same("it comes next", x.nextCheck(), 5);
        DUE.same("and ends", x.quiet(10), 1);
        DUE.same("its stamp", x.span(5, 0), 10);
    }

    @Says(promise = 6, words = "Undoable.")
    static void askUndoable() {
        EdgesOfUndoTest.undoable(DUE, x -> x.ask(0));
        EdgesOfUndoTest.undoable(DUE, x -> x.ask(7));
    }

    @Says(promise = 6, words = "`span`: 0 to 7")
    static void askSpan() {
        DUE.same("one below", new QuietChecks().ask(-1), QuietChecks.NO_SUCH);
        DUE.same("the first", new QuietChecks().ask(0), 0);
        DUE.same("the last", new QuietChecks().ask(7), 0);
        DUE.same("one above", new QuietChecks().ask(8), QuietChecks.NO_SUCH);
    }

    @Says(promise = 6, words = "Returns its place in the list;")
    static void askAnswers() {
        QuietChecks x = new QuietChecks();
        DUE.same("the first place", x.ask(7), 0);
        DUE.same("the second", x.ask(0), 1);
        DUE.same("the third", x.ask(3), 2);
        DUE.same("the fourth", x.ask(2), 3);
        DUE.same("the fifth", x.ask(6), 4);
        DUE.same("the sixth", x.ask(1), 5);
        x.unask(7);
        DUE.same("the sixth again", x.ask(7), 5);
    }

    @Says(promise = 6, words = "NO_SUCH if there is no such span;")
    static void askNoSuch() {
        for (int span : NO_SPANS) {
            Refusals.everywhere(DUE, "ask(" + span + ")", QuietChecks.NO_SUCH, x -> x.ask(span));
        }
    }

    @Says(promise = 6, words = "NOT_POSSIBLE if it is in the list, or its check has begun;")
    static void askNotPossible() {
        Supplier<QuietChecks> three = () -> asked(4, 0, 7);
        Refusals.refused(DUE, "the first in the list", QuietChecks.NOT_POSSIBLE, three, x -> x.ask(4));
        Refusals.refused(DUE, "the last in the list", QuietChecks.NOT_POSSIBLE, three, x -> x.ask(7));
        Refusals.refused(DUE, "0 in the list", QuietChecks.NOT_POSSIBLE, three, x -> x.ask(0));
        Refusals.refused(DUE, "has begun", QuietChecks.NOT_POSSIBLE, () -> begun(3), x -> x.ask(3));
        Refusals.refused(DUE, "0 has begun", QuietChecks.NOT_POSSIBLE, () -> begun(0), x -> x.ask(0));
        Refusals.refused(DUE, "in the full list", QuietChecks.NOT_POSSIBLE, Disks::full, x -> x.ask(5));
        Refusals.refused(DUE, "has begun, the list is full", QuietChecks.NOT_POSSIBLE, Disks::full, x -> x.ask(7));
        DUE.same("another one has begun", begun(3).ask(4), 0);
        QuietChecks ended = begun(3);
        ended.quiet(9);
        DUE.same("it has ended", ended.ask(3), 0);
        QuietChecks givenUp = begun(3);
        givenUp.giveUp();
        DUE.same("it is given up", givenUp.ask(3), 0);
    }

    @Says(promise = 6, words = "LIMIT if the list has 6 spans.")
    static void askLimit() {
        DUE.same("the sixth", asked(0, 1, 2, 3, 4).ask(7), 5);
        Refusals.refused(DUE, "a seventh", QuietChecks.LIMIT, () -> asked(0, 1, 2, 3, 4, 5), x -> x.ask(7));
        Refusals.refused(DUE, "with all else full", QuietChecks.LIMIT, Disks::full, x -> x.ask(6));
    }

    @Says(promise = 7, words = "Removes a span from the list.")
    static void unaskRemoves() {
        int[][] left = {{0, 6, 1}, {3, 6, 1}, {3, 0, 1}, {3, 0, 6}};
        int[] gone = {3, 0, 6, 1};
        for (int i = 0; i < gone.length; i++) {
            QuietChecks x = asked(3, 0, 6, 1);
            x.unask(gone[i]);
            DUE.same("it is gone", x.span(gone[i], 6), QuietChecks.NONE);
            for (int place = 0; place < 3; place++) {
                DUE.same("without " + gone[i] + ", place " + place, x.span(left[i][place], 6), place);
            }
        }
    }

    @Says(promise = 7, words = "Undoable.")
    static void unaskUndoable() {
        EdgesOfUndoTest.undoable(DUE, x -> x.unask(4));
        EdgesOfUndoTest.undoable(DUE, x -> x.unask(1));
    }

    @Says(promise = 7, words = "`span`: 0 to 7")
    static void unaskSpan() {
        DUE.same("one below", asked(0, 7).unask(-1), QuietChecks.NO_SUCH);
        DUE.same("the first", asked(0, 7).unask(0), 1);
        DUE.same("the last", asked(0, 7).unask(7), 1);
        DUE.same("one above", asked(0, 7).unask(8), QuietChecks.NO_SUCH);
    }

    @Says(promise = 7, words = "Returns the number of spans in the list then;")
    static void unaskAnswers() {
        QuietChecks x = asked(0, 1, 2, 3, 4, 5);
        for (int span = 5; span >= 0; span--) {
            DUE.same("unask(" + span + ")", x.unask(span), span);
        }
        DUE.same("count(8)", x.count(8), 0);
    }

    @Says(promise = 7, words = "NO_SUCH if there is no such span;")
    static void unaskNoSuch() {
        for (int span : NO_SPANS) {
            Refusals.everywhere(DUE, "unask(" + span + ")", QuietChecks.NO_SUCH, x -> x.unask(span));
        }
    }

    @Says(promise = 7, words = "NOT_POSSIBLE if it is not in the list.")
    static void unaskNotPossible() {
        Refusals.refused(DUE, "the list is empty", QuietChecks.NOT_POSSIBLE, QuietChecks::new, x -> x.unask(0));
        Refusals.refused(DUE, "others are in it", QuietChecks.NOT_POSSIBLE, () -> asked(3, 6), x -> x.unask(0));
        Refusals.refused(DUE, "its check has begun", QuietChecks.NOT_POSSIBLE, () -> begun(0), x -> x.unask(0));
        Refusals.refused(DUE, "the list is full", QuietChecks.NOT_POSSIBLE, Disks::full, x -> x.unask(6));
        QuietChecks x = asked(3, 6);
        x.unask(3);
        DUE.same("it is removed already", x.unask(3), QuietChecks.NOT_POSSIBLE);
        x.unask(6);
        DUE.same("the list has become empty", x.unask(6), QuietChecks.NOT_POSSIBLE);
    }

    @Says(promise = 8, words = "Lets the host read a span.")
    static void readReads() {
        QuietChecks x = begun(3);
        x.quiet(4);
        x.spot(6, 9);
        DUE.same("read(6, 20)", x.read(6, 20), 1);
        int[] counts = {25, 0, 1, 6, 0, 3, 3, 10, 1, 0, 1, 0, 1};
        for (int what = 0; what < counts.length; what++) {
            DUE.same("count(" + what + ")", x.count(what), counts[what]);
        }
        DUE.log("entries", x, "1 begins 3", "25 pauses 3", "25 slow 6");
    }

    @Says(promise = 8, words = "Undoable.")
    static void readUndoable() {
        EdgesOfUndoTest.undoable(DUE, x -> x.read(0, 1));
        EdgesOfUndoTest.undoable(DUE, x -> x.read(7, 200));
        EdgesOfUndoTest.undoable(DUE, x -> x.read(5, 1));
    }

    @Says(promise = 8, words = "`span`: 0 to 7")
    static void readSpan() {
        DUE.same("one below", new QuietChecks().read(-1, 1), QuietChecks.NO_SUCH);
        DUE.same("the first", new QuietChecks().read(0, 1), 0);
        DUE.same("the last", new QuietChecks().read(7, 1), 0);
        DUE.same("one above", new QuietChecks().read(8, 1), QuietChecks.NO_SUCH);
    }

    @Says(promise = 8, words = "`ticks`: 1 to 200")
    static void readTicks() {
        QuietChecks x = new QuietChecks();
        DUE.same("one below", x.read(0, 0), QuietChecks.BAD_VALUE);
        DUE.same("the fewest", x.read(0, 1), 0);
        DUE.same("count(0)", x.count(0), 1);
        DUE.same("the most", x.read(0, 200), 0);
        DUE.same("count(0)", x.count(0), 201);
        DUE.same("one above", x.read(0, 201), QuietChecks.BAD_VALUE);
        DUE.same("count(0)", x.count(0), 201);
    }

    @Says(promise = 8, words = "Returns 1 if the read is slow, otherwise 0;")
    static void readAnswers() {
        QuietChecks x = new QuietChecks();
        DUE.same("no spot", x.read(3, 1), 0);
        x.spot(3, 4);
        DUE.same("a spot of 4 tries", x.read(3, 1), 0);
        x.set(3, 4);
        DUE.same("the limit is 4", x.read(3, 1), 1);
        DUE.same("it is in the list", x.read(3, 1), 1);
        DUE.same("another span", x.read(4, 1), 0);
        x.set(0, 0);
        x.quiet(1);
        DUE.same("its check has begun", x.read(3, 1), 1);
        x.quiet(500);
        DUE.same("the spot is replaced", x.read(3, 1), 0);
        QuietChecks full = Disks.full();
        full.spot(6, 9);
        full.set(3, 2);
        DUE.same("the list is full", full.read(6, 1), 1);
    }

    @Says(promise = 8, words = "NO_SUCH if there is no such span;")
    static void readNoSuch() {
        for (int span : NO_SPANS) {
            Refusals.everywhere(DUE, "read(" + span + ", 5)", QuietChecks.NO_SUCH, x -> x.read(span, 5));
            Refusals.everywhere(DUE, "read(" + span + ", 0)", QuietChecks.NO_SUCH, x -> x.read(span, 0));
        }
    }

    @Says(promise = 8, words = "BAD_VALUE if ticks is out of range;")
    static void readBadValue() {
        for (int ticks : new int[] {0, 201, -1, Integer.MIN_VALUE, Integer.MAX_VALUE}) {
            Refusals.everywhere(DUE, "read(0, " + ticks + ")", QuietChecks.BAD_VALUE, x -> x.read(0, ticks));
            Refusals.everywhere(DUE, "read(7, " + ticks + ")", QuietChecks.BAD_VALUE, x -> x.read(7, ticks));
        }
    }

    @Says(promise = 8, words = "LIMIT if the tick would be greater than 99999.")
    static void readLimit() {
        DUE.same("99800 and 199", Disks.late(99800).read(0, 199), 0);
        Refusals.refused(DUE, "99800 and 200", QuietChecks.LIMIT, () -> Disks.late(99800), x -> x.read(0, 200));
        Refusals.refused(DUE, "99999 and 1", QuietChecks.LIMIT, Disks::atTheLastTick, x -> x.read(0, 1));
        Refusals.refused(DUE, "of a weak spot", QuietChecks.LIMIT, () -> lateAndWeak(), x -> x.read(2, 3));
        DUE.same("which is read in time", lateAndWeak().read(2, 2), 1);
    }

    private static QuietChecks lateAndWeak() {
        QuietChecks x = Disks.late(99990);
        x.spot(2, 9);
        x.ask(6);
        x.quiet(7);
        return x;
    }

    @Says(promise = 9, words = "Lets quiet ticks pass.")
    static void quietPasses() {
        QuietChecks x = new QuietChecks();
        x.ask(3);
        x.quiet(12);
        QuietChecks y = new QuietChecks();
        y.ask(3);
        for (int i = 0; i < 12; i++) {
            y.quiet(1);
        }
        DUE.same("at once or one by one", x.digest(), y.digest());
        DUE.same("done by", x.count(6), 7);
        DUE.same("count(0)", x.count(0), 12);
    }

    @Says(promise = 9, words = "Undoable.")
    static void quietUndoable() {
        EdgesOfUndoTest.undoable(DUE, x -> x.quiet(1));
        EdgesOfUndoTest.undoable(DUE, x -> x.quiet(500));
    }

    @Says(promise = 9, words = "`ticks`: 1 to 500")
    static void quietTicks() {
        QuietChecks x = new QuietChecks();
        DUE.same("one below", x.quiet(0), QuietChecks.BAD_VALUE);
        DUE.same("the fewest", x.quiet(1), 0);
        DUE.same("count(0)", x.count(0), 1);
        DUE.holds("the most", x.quiet(500) >= 0);
        DUE.same("count(0)", x.count(0), 501);
        DUE.same("one above", x.quiet(501), QuietChecks.BAD_VALUE);
        DUE.same("count(0)", x.count(0), 501);
    }

    @Says(promise = 9, words = "Returns the number of checks that end in them;")
    static void quietAnswers() {
        QuietChecks x = asked(1, 2, 3);
        DUE.same("none", x.quiet(9), 0);
        DUE.same("one, in the last tick", x.quiet(1), 1);
        DUE.same("one, with one that begins", x.quiet(11), 1);
        DUE.same("one, in the first tick", asked1().quiet(1), 1);
        QuietChecks y = Disks.quick();
        y.set(4, 50);
        y.quiet(24);
        // spans are due 25 ticks after each check, and 8 of them are checked in 8 ticks
        DUE.same("many", y.quiet(500), 160);
    }

    private static QuietChecks asked1() {
        QuietChecks x = asked(1);
        x.quiet(9);
        return x;
    }

    @Says(promise = 9, words = "BAD_VALUE if ticks is out of range;")
    static void quietBadValue() {
        for (int ticks : new int[] {0, 501, -1, Integer.MIN_VALUE, Integer.MAX_VALUE}) {
            Refusals.everywhere(DUE, "quiet(" + ticks + ")", QuietChecks.BAD_VALUE, x -> x.quiet(ticks));
        }
    }

    @Says(promise = 9, words = "LIMIT if the tick would be greater than 99999.")
    static void quietLimit() {
        QuietChecks x = Disks.late(99500);
        DUE.holds("99500 and 499", x.quiet(499) >= 0);
        DUE.same("count(0)", x.count(0), 99999);
        Refusals.refused(DUE, "99500 and 500", QuietChecks.LIMIT, () -> Disks.late(99500), y -> y.quiet(500));
        Refusals.refused(DUE, "99999 and 1", QuietChecks.LIMIT, Disks::atTheLastTick, y -> y.quiet(1));
        Refusals.refused(DUE, "99997 and 3", QuietChecks.LIMIT, () -> lateAndWeak(), y -> y.quiet(3));
        DUE.holds("99997 and 2", lateAndWeak().quiet(2) >= 0);
    }

    @Says(promise = 10, words = "Gives up the check that has begun;")
    static void giveUpGivesUp() {
        QuietChecks x = begun(3);
        x.ask(5);
        x.giveUp();
        DUE.same("none has begun", x.count(5), QuietChecks.NONE);
        DUE.same("done by", x.count(6), 0);
        DUE.same("takes", x.count(7), 0);
        DUE.same("it is not in the list", x.span(3, 6), QuietChecks.NONE);
        DUE.same("the list stays", x.span(5, 6), 0);
        x.quiet(1);
        DUE.same("the next one begins", x.count(5), 5);
        DUE.same("from the start", x.count(6), 1);
    }

    @Says(promise = 10, words = "its span is as old as before, and there is no entry in the log.")
    static void giveUpLeaves() {
        QuietChecks x = begun(3);
        x.spot(3, 9);
        x.spot(3, 1);
        x.quiet(8);
        x.giveUp();
        DUE.same("its stamp", x.span(3, 0), 0);
        DUE.same("its age", x.span(3, 1), 9);
        DUE.log("no entry", x, "1 begins 3");
        DUE.spots("its spots", x, 3, 9, 1);
        DUE.same("no check has ended", x.count(9), 0);
        DUE.same("nor paused", x.count(10), 0);
        DUE.same("the tick", x.count(0), 9);
    }

    @Says(promise = 10, words = "Undoable.")
    static void giveUpUndoable() {
        EdgesOfUndoTest.undoable(DUE, QuietChecks::giveUp);
        QuietChecks x = begun(3);
        x.read(0, 1);
        DUE.same("also if it was done by 0", x.giveUp(), 0);
        DUE.same("undo()", x.undo(), 4);
        DUE.same("it has begun", x.count(5), 3);
    }

    @Says(promise = 10, words = "Returns by how many ticks it was done;")
    static void giveUpAnswers() {
        QuietChecks x = begun(0);
        DUE.same("1", x.giveUp(), 1);
        x.ask(0);
        x.quiet(9);
        DUE.same("the last but one", x.giveUp(), 9);
        x.ask(0);
        x.quiet(9);
        x.read(3, 1);
        DUE.same("2 less by a pause", x.giveUp(), 7);
        x.ask(0);
        x.quiet(2);
        x.read(3, 1);
        DUE.same("0", x.giveUp(), 0);
    }

    @Says(promise = 10, words = "NOT_POSSIBLE if no check has begun.")
    static void giveUpNotPossible() {
        Supplier<QuietChecks> ended = () -> {
            QuietChecks x = begun(3);
            x.quiet(9);
            return x;
        };
        Supplier<QuietChecks> givenUp = () -> {
            QuietChecks x = begun(3);
            x.giveUp();
            return x;
        };
        Refusals.refused(DUE, "a new object", QuietChecks.NOT_POSSIBLE, QuietChecks::new, QuietChecks::giveUp);
        Refusals.refused(DUE, "only asked for", QuietChecks.NOT_POSSIBLE, () -> asked(3), QuietChecks::giveUp);
        Refusals.refused(DUE, "it has ended", QuietChecks.NOT_POSSIBLE, ended, QuietChecks::giveUp);
        Refusals.refused(DUE, "it is given up", QuietChecks.NOT_POSSIBLE, givenUp, QuietChecks::giveUp);
    }
}
