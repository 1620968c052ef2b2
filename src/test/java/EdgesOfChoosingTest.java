import java.io.IOException;

/** The edges of "Terms": choosing, quiet ticks, the host. */
public final class EdgesOfChoosingTest {
    private static final Due DUE = new Due("EdgesOfChoosingTest");

    public static void main(String[] args) throws IOException, ReflectiveOperationException {
        Edges.run(EdgesOfChoosingTest.class, DUE);
    }

    /** Ends the checks of these spans, one in each tick, and leaves ticks of the host to pass. */
    private static QuietChecks checked(int way, int... spans) {
        QuietChecks x = Disks.quick();
        x.set(4, 50);
        x.setWay(way);
        for (int span : spans) {
            x.ask(span);
            x.quiet(1);
        }
        return x;
    }

    @Says(words = "Spans can be asked for by hand;")
    static void askedByHand() {
        QuietChecks x = Disks.eager();
        x.ask(7);
        DUE.same("though it is not due", x.span(7, 4), 0);
        x.quiet(1);
        DUE.same("its check begins", x.count(5), 7);
    }

    @Says(words = "they wait in a list of at most 6 spans.")
    static void listOfSix() {
        QuietChecks x = Disks.eager();
        for (int span = 0; span < 6; span++) {
            DUE.same("ask(" + span + ")", x.ask(span), span);
        }
        DUE.same("a seventh one", x.ask(6), QuietChecks.LIMIT);
        DUE.same("count(8)", x.count(8), 6);
        x.quiet(1);
        DUE.same("the first one has left", x.ask(6), 5);
        DUE.same("a seventh one", x.ask(7), QuietChecks.LIMIT);
        x.unask(3);
        DUE.same("one is removed", x.ask(7), 5);
        DUE.same("a seventh one", x.ask(3), QuietChecks.LIMIT);
    }

    @Says(words = "the next check is that of the first span in the list, which leaves the list;")
    static void firstInTheList() {
        QuietChecks x = new QuietChecks();
        x.ask(6);
        x.ask(2);
        x.quiet(5);
        DUE.same("the disk may not work yet", x.count(8), 2);
        x.quiet(1);
        DUE.same("the first one", x.count(5), 6);
        DUE.same("leaves the list", x.span(6, 6), QuietChecks.NONE);
        DUE.same("the others move up", x.span(2, 6), 0);
        x.quiet(9);
        DUE.same("when the check has ended none begins in that tick", x.count(8), 1);
        x.quiet(1);
        DUE.same("the next one", x.count(5), 2);
        DUE.same("the list is empty", x.count(8), 0);
    }

    @Says(words = "if the list is empty, it is that of the best due span by the way that is set;")
    static void listBeforeDue() {
        QuietChecks x = Disks.quick();
        x.read(0, 200);
        x.spot(5, 9);
        x.ask(3);
        DUE.same("the list comes first", x.nextCheck(), 3);
        x.setWay(1);
        DUE.same("whatever the way", x.nextCheck(), 3);
        x.quiet(1);
        DUE.same("it is checked", x.span(3, 0), 201);
        DUE.same("then the worst", x.nextCheck(), 5);
        x.setWay(0);
        DUE.same("or the oldest", x.nextCheck(), 0);
        x.setWay(2);
        DUE.same("or the next in the row", x.nextCheck(), 4);
    }

    @Says(words = "if there is none, nothing is checked.")
    static void nothingIsChecked() {
        QuietChecks x = Disks.eager();
        DUE.same("quiet(199)", x.quiet(199), 0);
        DUE.same("count(5)", x.count(5), QuietChecks.NONE);
        DUE.same("count(6)", x.count(6), 0);
        DUE.same("count(7)", x.count(7), 0);
        DUE.same("entries()", x.entries(), 0);
        DUE.same("nextCheck()", x.nextCheck(), QuietChecks.NONE);
    }

    @Says(words = "The ways are these, where equal ones come by ascending numbers:")
    static void equalOnes() {
        for (int way = 0; way < 3; way++) {
            QuietChecks x = checked(way);
            x.quiet(24);
            for (int span = 0; span < 8; span++) {
                DUE.same("way " + way + ", span " + span, x.nextCheck(), span == 0 ? QuietChecks.NONE : span);
                x.quiet(1);
                DUE.same("its stamp", x.span(span, 0), 25 + span);
            }
        }
        QuietChecks y = checked(1);
        y.read(0, 30);
        y.spot(6, 4);
        y.spot(3, 1);
        y.spot(3, 3);
        y.spot(5, 2);
        DUE.same("equal sums", y.nextCheck(), 3);
    }

    @Says(words = "\"oldest\": the due span with the greatest age.")
    static void oldest() {
        QuietChecks x = checked(0, 7, 6, 5, 4, 3, 2, 1, 0);
        x.read(0, 17);
        DUE.same("7 has an age of 24", x.nextCheck(), QuietChecks.NONE);
        x.read(0, 1);
        DUE.same("7 has an age of 25", x.nextCheck(), 7);
        x.read(0, 1);
        DUE.same("7 is older than 6 by one tick", x.nextCheck(), 7);
        x.read(0, 200);
        DUE.same("all are overdue", x.nextCheck(), 7);
        x.quiet(1);
        DUE.same("then 6", x.nextCheck(), 6);
        x.spot(3, 9);
        DUE.same("spots do not count", x.nextCheck(), 6);
    }

    @Says(words = "\"worst\": the due span with the greatest sum of tries of its spots")
    static void worst() {
        QuietChecks x = checked(1, 6);
        x.spot(6, 9);
        x.spot(4, 2);
        x.spot(2, 1);
        x.spot(2, 2);
        x.read(0, 24);
        DUE.same("6 is not due at 24", x.nextCheck(), 2);
        x.spot(4, 2);
        DUE.same("one more decides", x.nextCheck(), 4);
        x.read(0, 1);
        DUE.same("6 is due at 25", x.nextCheck(), 6);
        QuietChecks y = checked(1, 0);
        y.read(1, 24);
        DUE.same("without spots the first due one", y.nextCheck(), 1);
    }

    @Says(words = "(each tries counted in full)")
    static void worstInFull() {
        QuietChecks x = checked(1);
        x.set(3, 2);
        x.read(0, 30);
        for (int i = 0; i < 4; i++) {
            x.spot(1, 2);
        }
        x.spot(5, 9);
        DUE.same("9 is more than 4 * 2", x.nextCheck(), 5);
        x.spot(1, 1);
        DUE.same("9 is as much as 9", x.nextCheck(), 1);
    }

    @Says(words = "\"row\": the first due span behind the one whose check ended last")
    static void rowBehind() {
        QuietChecks x = checked(2, 2, 3, 4, 0);
        x.read(0, 23);
        DUE.same("behind 0", x.nextCheck(), 1);
        QuietChecks y = checked(2, 1, 2, 3, 0);
        y.read(0, 21);
        DUE.same("1, 2 and 3 are not due", y.nextCheck(), 4);
        y.read(0, 1);
        DUE.same("1 is due", y.nextCheck(), 1);
        y.ask(6);
        y.quiet(1);
        DUE.same("behind one that was asked for", y.nextCheck(), 7);
        y.set(1, 10);
        y.ask(3);
        y.quiet(5);
        DUE.same("a check that has not ended does not count", y.nextCheck(), 7);
        y.giveUp();
        DUE.same("nor one that is given up", y.nextCheck(), 7);
    }

    @Says(words = "going around (behind span 7 comes span 0;")
    static void rowGoesAround() {
        QuietChecks x = checked(2, 7);
        x.read(0, 30);
        DUE.same("behind 7", x.nextCheck(), 0);
        QuietChecks y = checked(2, 0, 1, 7, 6);
        // stamps: 0:1 1:2 7:3 6:4
        y.read(0, 21);
        DUE.same("7, 0 and 1 are not due at 25", y.nextCheck(), 2);
        y.read(0, 2);
        DUE.same("0 and 1 are due at 27, 7 is not", y.nextCheck(), 0);
        y.read(0, 1);
        DUE.same("7 is due at 28", y.nextCheck(), 7);
    }

    @Says(words = "that span itself comes last);")
    static void rowComesToItselfLast() {
        for (int span = 0; span < 8; span++) {
            QuietChecks x = checked(2, span);
            x.read(0, 100);
            DUE.same("all are due, itself too", x.span(span, 4), 2);
            DUE.same("behind " + span, x.nextCheck(), (span + 1) % 8);
        }
        QuietChecks y = checked(2, 5, 6, 7, 0, 1, 2, 3, 4);
        y.read(0, 25);
        DUE.same("4 is due, and was checked last", y.span(4, 4), 1);
        DUE.same("5 comes first", y.nextCheck(), 5);
    }

    @Says(words = "before the first check has ended, the due span with the lowest number.")
    static void rowBeforeTheFirst() {
        QuietChecks x = checked(2);
        x.set(1, 40);
        x.read(0, 30);
        DUE.same("no check has begun", x.nextCheck(), 0);
        x.ask(5);
        x.quiet(39);
        DUE.same("no check has ended", x.nextCheck(), 0);
        x.quiet(1);
        DUE.same("5 has ended", x.nextCheck(), 6);
        x.undo();
        DUE.same("undone", x.nextCheck(), 0);
        x.giveUp();
        DUE.same("given up", x.nextCheck(), 0);
    }

    @Says(words = "There is a count of quiet ticks, 0 at first.")
    static void quietTicksAtFirst() {
        DUE.same("count(1)", new QuietChecks().count(1), 0);
    }

    @Says(words = "When a quiet tick passes, the current tick becomes 1 more;")
    static void tickFirst() {
        QuietChecks x = Disks.eager();
        x.quiet(199);
        DUE.same("count(0)", x.count(0), 199);
        DUE.same("none is due", x.overdue(), 0);
        x.quiet(1);
        DUE.same("spans are due at the tick that has become 200", x.count(5), 0);
        DUE.log("it begins there", x, "200 begins 0");
    }

    @Says(words = "if the count is less than the setting wait, the count becomes 1 more;")
    static void countsUpToTheWait() {
        QuietChecks x = new QuietChecks();
        x.ask(3);
        x.quiet(4);
        DUE.same("count(1)", x.count(1), 4);
        x.quiet(1);
        DUE.same("the wait is over", x.count(1), 5);
        DUE.same("but nothing has begun in that tick", x.count(5), QuietChecks.NONE);
        x.quiet(1);
        DUE.same("it counts no further", x.count(1), 5);
        DUE.same("but a check begins", x.count(5), 3);
        x.set(0, 6);
        x.quiet(1);
        DUE.same("a longer wait", x.count(1), 6);
        DUE.same("no work in that tick", x.count(6), 1);
        x.set(0, 2);
        x.quiet(1);
        DUE.same("a shorter wait lets the count stay", x.count(1), 6);
        DUE.same("and the check go on", x.count(6), 2);
        x.set(0, 0);
        x.read(0, 1);
        x.quiet(1);
        DUE.same("without a wait it stays 0", x.count(1), 0);
    }

    @Says(words = "if no check has begun, the next one is chosen and begins, if there is one")
    static void beginsIfNoneHasBegun() {
        QuietChecks x = Disks.eager();
        x.ask(4);
        x.quiet(1);
        x.ask(1);
        x.quiet(9);
        DUE.same("4 has ended", x.count(9), 1);
        DUE.same("1 has waited until then", x.count(8), 1);
        DUE.same("and does not begin in that tick", x.count(5), QuietChecks.NONE);
        x.quiet(1);
        DUE.same("it begins in the next", x.count(5), 1);
        DUE.log("begins", x, "1 begins 4", "10 ends 4", "11 begins 1");
    }

    @Says(words = "after this a check that has begun is done by 1 tick more;")
    static void oneTickMore() {
        QuietChecks x = Disks.eager();
        x.ask(4);
        x.quiet(1);
        DUE.same("also in the tick in which it begins", x.count(6), 1);
        x.quiet(1);
        DUE.same("and in the next", x.count(6), 2);
        x.quiet(7);
        DUE.same("up to the last but one", x.count(6), 9);
    }

    @Says(words = "if it is done by all its ticks then, it ends, at this tick.")
    static void endsAtThisTick() {
        QuietChecks x = Disks.eager();
        x.ask(4);
        DUE.same("done by 9", x.quiet(9), 0);
        DUE.same("done by 10", x.quiet(1), 1);
        DUE.same("the stamp", x.span(4, 0), 10);
        DUE.log("ends", x, "1 begins 4", "10 ends 4");
        QuietChecks y = Disks.quick();
        y.ask(4);
        DUE.same("a check of one tick", y.quiet(1), 1);
        DUE.log("ends in the tick in which it begins", y, "1 begins 4", "1 ends 4");
        DUE.same("count(5)", y.count(5), QuietChecks.NONE);
    }

    @Says(words = "the count of quiet ticks becomes 0, and the current tick grows by these ticks.")
    static void hostTicks() {
        QuietChecks x = new QuietChecks();
        x.read(0, 1);
        DUE.same("0 stays 0", x.count(1), 0);
        DUE.same("the tick", x.count(0), 1);
        x.quiet(1);
        x.read(0, 200);
        DUE.same("1 becomes 0", x.count(1), 0);
        DUE.same("the tick", x.count(0), 202);
        x.quiet(5);
        x.read(0, 2);
        DUE.same("5 becomes 0", x.count(1), 0);
        x.quiet(5);
        DUE.same("all the wait again, though spans are due", x.count(5), QuietChecks.NONE);
        x.quiet(1);
        DUE.same("then a check begins", x.count(5), 0);
    }

    @Says(words = "it is done by 2 ticks less than it was, but at least 0.")
    static void pause() {
        int[] left = {0, 0, 0, 1, 2, 3, 4, 5, 6, 7};
        for (int done = 1; done < left.length; done++) {
            QuietChecks x = Disks.eager();
            x.ask(4);
            x.quiet(done);
            x.read(0, 50);
            DUE.same("done by " + done, x.count(6), left[done]);
            DUE.same("it has still begun", x.count(5), 4);
            DUE.same("and takes as many ticks", x.count(7), 10);
        }
        QuietChecks y = Disks.eager();
        y.ask(4);
        y.quiet(1);
        y.read(0, 1);
        y.read(0, 1);
        DUE.same("done by 0 already", y.count(6), 0);
        DUE.same("it pauses all the same", y.count(10), 2);
        DUE.same("it ends ten ticks later", y.checkedIn(4), 10);
    }

    @Says(words = "If a check has begun, it pauses")
    static void pausesOnlyWhatHasBegun() {
        QuietChecks x = Disks.eager();
        x.read(0, 1);
        DUE.same("no check has begun", x.count(10), 0);
        DUE.same("entries()", x.entries(), 0);
        x.ask(4);
        x.quiet(10);
        x.read(0, 1);
        DUE.same("the check has ended", x.count(10), 0);
        x.ask(4);
        x.quiet(9);
        x.read(0, 1);
        DUE.same("a tick before its end", x.count(10), 1);
    }

    @Says(words = "If the span that is read has a spot whose tries are at least the limit, the read is slow")
    static void slowFromTheLimitOn() {
        for (int limit : new int[] {2, 5, 9}) {
            QuietChecks x = new QuietChecks();
            x.set(3, limit);
            DUE.same("no spot", x.read(1, 1), 0);
            x.spot(1, limit - 1);
            x.spot(1, limit - 1);
            x.spot(2, limit);
            DUE.same("below the limit " + limit, x.read(1, 1), 0);
            DUE.same("count(12)", x.count(12), 0);
            DUE.same("at the limit", x.read(2, 1), 1);
            x.spot(1, limit);
            DUE.same("one of several", x.read(1, 1), 1);
            DUE.same("count(12)", x.count(12), 2);
        }
        QuietChecks y = new QuietChecks();
        y.spot(1, 9);
        DUE.same("beyond the limit", y.read(1, 1), 1);
    }

    private static QuietChecks weak(int span) {
        QuietChecks x = Disks.eager();
        x.spot(span, 5);
        return x;
    }

    @Says(words = "the span is asked for by hand, unless it is in the list already")
    static void slowInTheList() {
        QuietChecks x = weak(3);
        x.ask(1);
        x.read(3, 1);
        DUE.same("it comes last in the list", x.span(3, 6), 1);
        x.ask(2);
        x.read(3, 1);
        DUE.same("it stays where it is", x.span(3, 6), 1);
        DUE.same("count(8)", x.count(8), 3);
        x.unask(3);
        x.read(3, 1);
        DUE.same("it comes in again", x.span(3, 6), 2);
    }

    @Says(words = "or its check has begun")
    static void slowWhileItIsChecked() {
        QuietChecks x = weak(3);
        x.ask(3);
        x.quiet(1);
        DUE.same("slow", x.read(3, 1), 1);
        DUE.same("not asked for", x.count(8), 0);
        x.giveUp();
        DUE.same("slow", x.read(3, 1), 1);
        DUE.same("asked for, since it is given up", x.span(3, 6), 0);
        QuietChecks y = weak(3);
        y.ask(4);
        y.quiet(1);
        y.read(3, 1);
        DUE.same("the check of another one has begun", y.span(3, 6), 0);
    }

    @Says(words = "or the list is full.")
    static void slowWhileTheListIsFull() {
        QuietChecks x = weak(7);
        for (int span = 0; span < 5; span++) {
            x.ask(span);
        }
        x.read(7, 1);
        DUE.same("the last place", x.span(7, 6), 5);
        x.unask(7);
        x.ask(5);
        DUE.same("slow", x.read(7, 1), 1);
        DUE.same("no place", x.span(7, 6), QuietChecks.NONE);
        DUE.same("count(8)", x.count(8), 6);
        DUE.same("count(12)", x.count(12), 2);
    }
}
