import java.io.IOException;

/** The edges of promises 11, 13, 14, 18 and 19: count, span, tries, overdue, nextCheck. */
public final class EdgesOfAskingTest {
    private static final Due DUE = new Due("EdgesOfAskingTest");
    private static final int[] NO_SPANS = {-1, 8, Integer.MIN_VALUE, Integer.MAX_VALUE};

    public static void main(String[] args) throws IOException, ReflectiveOperationException {
        Edges.run(EdgesOfAskingTest.class, DUE);
    }

    private static void counts(String when, QuietChecks x, int... wants) {
        for (int what = 0; what < wants.length; what++) {
            DUE.same(when + ": count(" + what + ")", x.count(what), wants[what]);
        }
    }

    @Says(promise = 11, words = "Returns a number of the disk.")
    static void countAnswers() {
        counts("a new object", new QuietChecks(), 0, 0, 0, 6, 0, QuietChecks.NONE, 0, 0, 0, 0, 0, 0, 0);
    }

    @Says(promise = 11, words = "0 for the current tick, 1 for the count of quiet ticks")
    static void countTicks() {
        QuietChecks x = new QuietChecks();
        x.quiet(3);
        x.read(0, 4);
        x.quiet(2);
        DUE.same("count(0)", x.count(0), 9);
        DUE.same("count(1)", x.count(1), 2);
        x.quiet(4);
        DUE.same("count(1) ends at the wait", x.count(1), 5);
        DUE.same("count(0) at the last tick", Disks.atTheLastTick().count(0), 99999);
    }

    @Says(promise = 11, words = "2 for the number of spots, 3 for the number of spares, 4 for the way")
    static void countSpots() {
        QuietChecks x = Disks.full();
        DUE.same("20 spots", x.count(2), 20);
        DUE.same("50 spares", x.count(3), 50);
        DUE.same("oldest", x.count(4), 0);
        x.setWay(1);
        DUE.same("worst", x.count(4), 1);
        x.setWay(2);
        DUE.same("row", x.count(4), 2);
    }

    @Says(promise = 11, words = "5 for the span of the check that has begun (NONE if none has)")
    static void countSpan() {
        for (int span = 0; span < 8; span++) {
            QuietChecks x = Disks.eager();
            x.ask(span);
            DUE.same("asked for only", x.count(5), QuietChecks.NONE);
            x.quiet(1);
            DUE.same("it has begun", x.count(5), span);
            x.quiet(8);
            DUE.same("a tick before its end", x.count(5), span);
            x.quiet(1);
            DUE.same("it has ended", x.count(5), QuietChecks.NONE);
        }
    }

    @Says(promise = 11, words = "6 for the ticks by which it is done, 7 for the ticks that it takes (6 and 7: 0 if none has begun)")
    static void countCheck() {
        QuietChecks x = Disks.eager();
        counts("a new object", x, 0, 0, 0, 6, 0, QuietChecks.NONE, 0, 0);
        x.spot(2, 1);
        x.ask(2);
        x.quiet(1);
        DUE.same("done by", x.count(6), 1);
        DUE.same("takes", x.count(7), 13);
        x.quiet(11);
        DUE.same("done by", x.count(6), 12);
        DUE.same("takes", x.count(7), 13);
        x.quiet(1);
        DUE.same("it has ended", x.count(6), 0);
        DUE.same("it has ended", x.count(7), 0);
        x.ask(2);
        x.quiet(5);
        x.giveUp();
        DUE.same("it is given up", x.count(6), 0);
        DUE.same("it is given up", x.count(7), 0);
    }

    @Says(promise = 11, words = "8 for the number of spans in the list")
    static void countList() {
        DUE.same("none", new QuietChecks().count(8), 0);
        DUE.same("six", Disks.full().count(8), 6);
    }

    @Says(promise = 11, words = "9 for the number of checks that ended so far, 10 for the number of pauses so far, 11 for the number of spots that were replaced so far, 12 for the number of slow reads so far")
    static void countSoFar() {
        QuietChecks x = Disks.quick();
        for (int i = 0; i < 12; i++) {
            x.spot(1, 9);
        }
        x.addSpares(9);
        x.read(1, 1);
        x.quiet(30);
        x.read(0, 1);
        x.read(1, 1);
        // 61 ticks in all, of which 26 are done
        x.quiet(35);
        x.read(1, 1);
        x.ask(4);
        x.quiet(1);
        // the log has forgotten most of it
        DUE.same("ended", x.count(9), 2);
        DUE.same("pauses", x.count(10), 2);
        DUE.same("replaced", x.count(11), 12);
        DUE.same("slow reads", x.count(12), 2);
        DUE.same("entries()", x.entries(), 10);
        x.undo();
        x.undo();
        x.undo();
        x.undo();
        DUE.same("ended, undone", x.count(9), 0);
        DUE.same("pauses, undone", x.count(10), 2);
        DUE.same("replaced, undone", x.count(11), 0);
        DUE.same("slow reads, undone", x.count(12), 2);
    }

    @Says(promise = 11, words = "BAD_VALUE if what is out of range.")
    static void countBadValue() {
        Refusals.everywhere(DUE, "count(-1)", QuietChecks.BAD_VALUE, x -> x.count(-1));
        Refusals.everywhere(DUE, "count(13)", QuietChecks.BAD_VALUE, x -> x.count(13));
        for (int what : Disks.FAR) {
            DUE.same("count(" + what + ")", new QuietChecks().count(what), QuietChecks.BAD_VALUE);
        }
    }

    @Says(promise = 11, words = "Returns the number;")
    static void countOfTheLargest() {
        QuietChecks x = Disks.full();
        counts("all is full", x, 36, 0, 20, 50, 0, 7, 18, 70, 6, 0, 6, 0, 6);
    }

    @Says(promise = 13, words = "Returns something about a span.")
    static void spanAnswers() {
        for (int span = 0; span < 8; span++) {
            int[] wants = {0, 0, 0, 0, 0, 10, QuietChecks.NONE};
            for (int what = 0; what < wants.length; what++) {
                DUE.same("span(" + span + ", " + what + ")", new QuietChecks().span(span, what), wants[what]);
            }
        }
    }

    @Says(promise = 13, words = "`span`: 0 to 7")
    static void spanSpan() {
        QuietChecks x = new QuietChecks();
        x.spot(0, 3);
        x.spot(7, 4);
        DUE.same("one below", x.span(-1, 3), QuietChecks.NO_SUCH);
        DUE.same("the first", x.span(0, 3), 3);
        DUE.same("the last", x.span(7, 3), 4);
        DUE.same("one above", x.span(8, 3), QuietChecks.NO_SUCH);
    }

    @Says(promise = 13, words = "0 for its stamp, 1 for its age")
    static void spanStampAndAge() {
        QuietChecks x = Disks.eager();
        x.ask(7);
        x.quiet(10);
        DUE.same("stamp at its end", x.span(7, 0), 10);
        DUE.same("age at its end", x.span(7, 1), 0);
        x.read(0, 1);
        DUE.same("stamp", x.span(7, 0), 10);
        DUE.same("age", x.span(7, 1), 1);
        DUE.same("stamp of another one", x.span(6, 0), 0);
        DUE.same("age of another one", x.span(6, 1), 11);
    }

    @Says(promise = 13, words = "2 for the number of its spots, 3 for the sum of their tries")
    static void spanSpots() {
        QuietChecks x = new QuietChecks();
        DUE.same("no spots", x.span(7, 2), 0);
        DUE.same("no tries", x.span(7, 3), 0);
        for (int i = 0; i < 20; i++) {
            x.spot(7, 9);
        }
        DUE.same("all spots", x.span(7, 2), 20);
        DUE.same("all tries, in full", x.span(7, 3), 180);
        DUE.same("of another span", x.span(6, 2), 0);
        DUE.same("of another span", x.span(6, 3), 0);
    }

    @Says(promise = 13, words = "4 for 2 if it is overdue, 1 if it is due but not overdue, otherwise 0")
    static void spanStatus() {
        QuietChecks x = new QuietChecks();
        x.set(4, 51);
        int[] ages = {24, 25, 51, 52};
        int[] wants = {0, 1, 1, 2};
        for (int i = 0; i < ages.length; i++) {
            Disks.pass(x, 0, ages[i] - x.count(0));
            DUE.same("an age of " + ages[i], x.span(7, 4), wants[i]);
        }
    }

    @Says(promise = 13, words = "5 for the ticks that a check of it would take now")
    static void spanTicks() {
        QuietChecks x = Disks.eager();
        x.spot(7, 2);
        DUE.same("with a spot", x.span(7, 5), 16);
        x.ask(7);
        x.quiet(1);
        x.spot(7, 9);
        DUE.same("now, though its check has begun with less", x.span(7, 5), 31);
        x.quiet(15);
        DUE.same("its check has ended", x.count(9), 1);
        DUE.same("one spot has one try more, the other one is gone", x.span(7, 5), 19);
        x.set(1, 1);
        DUE.same("by the setting span", x.span(7, 5), 10);
        x.set(2, 1);
        DUE.same("by the setting try", x.span(7, 5), 4);
        x.set(3, 2);
        DUE.same("by the limit", x.span(7, 5), 3);
    }

    @Says(promise = 13, words = "6 for its place in the list (NONE if it is not there)")
    static void spanPlace() {
        QuietChecks x = Disks.full();
        for (int span = 0; span < 6; span++) {
            DUE.same("span(" + span + ", 6)", x.span(span, 6), span);
        }
        DUE.same("not in the list", x.span(6, 6), QuietChecks.NONE);
        DUE.same("its check has begun", x.span(7, 6), QuietChecks.NONE);
        x.unask(0);
        DUE.same("it is removed", x.span(0, 6), QuietChecks.NONE);
        DUE.same("the last one moves up", x.span(5, 6), 4);
    }

    @Says(promise = 13, words = "Returns the number;")
    static void spanOfABusyDisk() {
        QuietChecks x = Disks.planned();
        int[] wants = {68, 82, 1, 5, 2, 25, QuietChecks.NONE};
        for (int what = 0; what < wants.length; what++) {
            DUE.same("span(5, " + what + ")", x.span(5, what), wants[what]);
        }
    }

    @Says(promise = 13, words = "NO_SUCH if there is no such span;")
    static void spanNoSuch() {
        for (int span : NO_SPANS) {
            Refusals.everywhere(DUE, "span(" + span + ", 0)", QuietChecks.NO_SUCH, x -> x.span(span, 0));
            Refusals.everywhere(DUE, "span(" + span + ", 7)", QuietChecks.NO_SUCH, x -> x.span(span, 7));
        }
    }

    @Says(promise = 13, words = "BAD_VALUE if what is out of range.")
    static void spanBadValue() {
        for (int what : new int[] {-1, 7, Integer.MIN_VALUE, Integer.MAX_VALUE}) {
            Refusals.everywhere(DUE, "span(0, " + what + ")", QuietChecks.BAD_VALUE, x -> x.span(0, what));
            Refusals.everywhere(DUE, "span(7, " + what + ")", QuietChecks.BAD_VALUE, x -> x.span(7, what));
        }
    }

    @Says(promise = 14, words = "Returns the tries of a spot.")
    static void triesAnswers() {
        QuietChecks x = Disks.quick();
        x.spot(3, 1);
        x.spot(4, 2);
        x.spot(3, 9);
        DUE.same("tries(3, 0)", x.tries(3, 0), 1);
        DUE.same("tries(3, 1)", x.tries(3, 1), 9);
        DUE.same("tries(4, 0)", x.tries(4, 0), 2);
    }

    @Says(promise = 14, words = "`span`: 0 to 7")
    static void triesSpan() {
        QuietChecks x = new QuietChecks();
        x.spot(0, 3);
        x.spot(7, 4);
        DUE.same("one below", x.tries(-1, 0), QuietChecks.NO_SUCH);
        DUE.same("the first", x.tries(0, 0), 3);
        DUE.same("the last", x.tries(7, 0), 4);
        DUE.same("one above", x.tries(8, 0), QuietChecks.NO_SUCH);
    }

    @Says(promise = 14, words = "`index`: 0 for its first spot")
    static void triesIndex() {
        QuietChecks x = new QuietChecks();
        for (int i = 0; i < 20; i++) {
            x.spot(5, 1 + i % 9);
        }
        DUE.same("one below", x.tries(5, -1), QuietChecks.NO_SUCH);
        DUE.same("the first", x.tries(5, 0), 1);
        DUE.same("the second", x.tries(5, 1), 2);
        DUE.same("the last", x.tries(5, 19), 2);
        DUE.same("one above", x.tries(5, 20), QuietChecks.NO_SUCH);
    }

    @Says(promise = 14, words = "Returns the tries;")
    static void triesAfterChecks() {
        QuietChecks x = Disks.quick();
        x.spot(3, 4);
        x.spot(3, 9);
        x.spot(3, 1);
        x.ask(3);
        x.quiet(11);
        DUE.same("one more", x.tries(3, 0), 5);
        DUE.same("behind one that is replaced", x.tries(3, 1), 2);
        DUE.same("it is gone", x.tries(3, 2), QuietChecks.NO_SUCH);
        x.undo();
        DUE.same("undone", x.tries(3, 2), 1);
    }

    @Says(promise = 14, words = "NO_SUCH if there is no such span or spot.")
    static void triesNoSuch() {
        for (int span : NO_SPANS) {
            Refusals.everywhere(DUE, "tries(" + span + ", 0)", QuietChecks.NO_SUCH, x -> x.tries(span, 0));
        }
        Refusals.everywhere(DUE, "tries(0, -1)", QuietChecks.NO_SUCH, x -> x.tries(0, -1));
        Refusals.everywhere(DUE, "tries(5, 20)", QuietChecks.NO_SUCH, x -> x.tries(5, 20));
        DUE.same("no spot at all", new QuietChecks().tries(0, 0), QuietChecks.NO_SUCH);
        QuietChecks x = new QuietChecks();
        x.spot(4, 1);
        DUE.same("no spot in that span", x.tries(3, 0), QuietChecks.NO_SUCH);
        DUE.same("no spot behind its own", x.tries(4, 1), QuietChecks.NO_SUCH);
        for (int index : Disks.FAR) {
            DUE.same("tries(4, " + index + ")", x.tries(4, index), QuietChecks.NO_SUCH);
        }
    }

    @Says(promise = 18, words = "Returns the number of spans that are overdue.")
    static void overdue() {
        QuietChecks x = Disks.quick();
        x.set(4, 50);
        for (int span = 0; span < 8; span++) {
            x.ask(span);
            x.quiet(1);
        }
        // the stamps are 1 to 8
        x.read(0, 43);
        for (int overdue = 0; overdue <= 8; overdue++) {
            DUE.same("at " + (51 + overdue), x.overdue(), overdue);
            x.read(0, 1);
        }
        DUE.same("no more than all", x.overdue(), 8);
        DUE.same("a new object", new QuietChecks().overdue(), 0);
    }

    @Says(promise = 19, words = "Returns the span whose check would begin next")
    static void nextCheck() {
        QuietChecks x = Disks.quick();
        x.read(0, 200);
        for (int span = 0; span < 8; span++) {
            DUE.same("nextCheck()", x.nextCheck(), span);
            x.quiet(1);
        }
        x.ask(4);
        DUE.same("the list comes first", x.nextCheck(), 4);
    }

    @Says(promise = 19, words = "if the disk might work and no check had begun")
    static void nextCheckThoughItMayNot() {
        QuietChecks x = new QuietChecks();
        x.read(0, 200);
        DUE.same("the disk may not work yet", x.nextCheck(), 0);
        x.ask(3);
        DUE.same("the list", x.nextCheck(), 3);
        x.quiet(6);
        DUE.same("3 has begun", x.count(5), 3);
        DUE.same("as if it had not", x.nextCheck(), 0);
        x.ask(6);
        DUE.same("the list", x.nextCheck(), 6);
        x.unask(6);
        x.giveUp();
        x.quiet(1);
        DUE.same("0 has begun", x.count(5), 0);
        DUE.same("it is as old as before", x.nextCheck(), 0);
    }

    @Says(promise = 19, words = "by the ages that the spans have now.")
    static void nextCheckNow() {
        QuietChecks x = Disks.eager();
        x.quiet(199);
        DUE.same("due in the next tick, not now", x.nextCheck(), QuietChecks.NONE);
        DUE.same("though one begins then", x.checkedIn(0), 10);
        x.read(0, 1);
        DUE.same("due now", x.nextCheck(), 0);
    }

    @Says(promise = 19, words = "Returns the span;")
    static void nextCheckAnswers() {
        for (int span = 0; span < 8; span++) {
            QuietChecks x = new QuietChecks();
            x.ask(span);
            DUE.same("asked for", x.nextCheck(), span);
            QuietChecks y = new QuietChecks();
            y.setWay(1);
            y.spot(span, 1);
            y.read(0, 200);
            DUE.same("the worst", y.nextCheck(), span);
        }
    }

    @Says(promise = 19, words = "NONE if there is none.")
    static void nextCheckNone() {
        for (int way = 0; way < 3; way++) {
            QuietChecks x = new QuietChecks();
            x.setWay(way);
            x.spot(3, 9);
            DUE.same("a new object", x.nextCheck(), QuietChecks.NONE);
            x.quiet(199);
            DUE.same("a tick before they are due", x.nextCheck(), QuietChecks.NONE);
            x.ask(3);
            x.unask(3);
            DUE.same("the list is empty again", x.nextCheck(), QuietChecks.NONE);
            x.quiet(1);
            DUE.same("they are due", x.nextCheck(), way == 1 ? 3 : 0);
        }
    }
}
