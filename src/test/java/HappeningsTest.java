/** Promises 5 to 10: spot, ask, unask, read, quiet, giveUp. */
public final class HappeningsTest {
    private static final Due DUE = new Due("HappeningsTest");

    public static void main(String[] args) {
        promise5Spot();
        promise5AtMostTwentySpots();
        promise6Ask();
        promise7Unask();
        promise8ReadPausesTheCheck();
        promise8SlowReads();
        promise8ReadRefuses();
        promise9WaitsFirst();
        promise9WaitThatChanges();
        promise9ChecksEnd();
        promise9WantOfSpares();
        promise9LimitAtTheEnd();
        promise9QuietRefuses();
        promise10GiveUp();
        DUE.end();
    }

    /** An object whose checks work at once. */
    private static QuietChecks eager() {
        QuietChecks x = new QuietChecks();
        x.set(0, 0);
        return x;
    }

    private static void promise5Spot() {
        QuietChecks x = new QuietChecks();
        DUE.same("spot(4, 9)", x.spot(4, 9), 1);
        DUE.same("spot(4, 1)", x.spot(4, 1), 2);
        DUE.same("spot(0, 5)", x.spot(0, 5), 1);
        DUE.same("spot(4, 3)", x.spot(4, 3), 3);
        DUE.spots("order", x, 4, 9, 1, 3);
        DUE.spots("order", x, 0, 5);
        DUE.same("spot(8, 1)", x.spot(8, 1), QuietChecks.NO_SUCH);
        DUE.same("spot(-1, 1)", x.spot(-1, 1), QuietChecks.NO_SUCH);
        DUE.same("spot(8, 0): NO_SUCH is named first", x.spot(8, 0), QuietChecks.NO_SUCH);
        DUE.same("spot(7, 0)", x.spot(7, 0), QuietChecks.BAD_VALUE);
        DUE.same("spot(7, 10)", x.spot(7, 10), QuietChecks.BAD_VALUE);
        DUE.same("spot(7, 1)", x.spot(7, 1), 1);
        DUE.same("count(2)", x.count(2), 5);
        DUE.same("undo()", x.undo(), 4);
        DUE.same("undo()", x.undo(), 3);
        DUE.spots("undone", x, 4, 9, 1);
    }

    private static void promise5AtMostTwentySpots() {
        QuietChecks x = new QuietChecks();
        for (int i = 0; i < 20; i++) {
            DUE.same("spot " + i, x.spot(i % 2, 1 + i % 9), i / 2 + 1);
        }
        DUE.same("a spot too many", x.spot(5, 1), QuietChecks.LIMIT);
        DUE.same("BAD_VALUE is named before LIMIT", x.spot(5, 0), QuietChecks.BAD_VALUE);
        DUE.same("NO_SUCH is named before LIMIT", x.spot(9, 1), QuietChecks.NO_SUCH);
        DUE.same("count(2)", x.count(2), 20);
        DUE.same("span(1, 2)", x.span(1, 2), 10);
    }

    private static void promise6Ask() {
        QuietChecks x = eager();
        DUE.same("ask(7)", x.ask(7), 0);
        DUE.same("ask(0)", x.ask(0), 1);
        DUE.same("ask(7) is in the list", x.ask(7), QuietChecks.NOT_POSSIBLE);
        DUE.same("ask(8)", x.ask(8), QuietChecks.NO_SUCH);
        DUE.same("ask(-1)", x.ask(-1), QuietChecks.NO_SUCH);
        x.quiet(1);
        DUE.same("7 has begun", x.count(5), 7);
        DUE.same("and has left the list", x.count(8), 1);
        DUE.same("ask(7) has begun", x.ask(7), QuietChecks.NOT_POSSIBLE);
        for (int span = 1; span <= 5; span++) {
            DUE.same("ask(" + span + ")", x.ask(span), span);
        }
        DUE.same("ask(6): the list is full", x.ask(6), QuietChecks.LIMIT);
        DUE.same("ask(7): NOT_POSSIBLE is named first", x.ask(7), QuietChecks.NOT_POSSIBLE);
        DUE.same("ask(3): NOT_POSSIBLE is named first", x.ask(3), QuietChecks.NOT_POSSIBLE);
        DUE.same("undo()", x.undo(), 5);
        DUE.same("span(5, 6) undone", x.span(5, 6), QuietChecks.NONE);
        DUE.same("asked for spans come in their order", x.quiet(60), 6);
        DUE.same("the last one", x.span(4, 0), 60);
        DUE.same("0 was first behind 7", x.span(0, 0), 20);
    }

    private static void promise7Unask() {
        QuietChecks x = new QuietChecks();
        x.ask(3);
        x.ask(6);
        x.ask(1);
        DUE.same("unask(6)", x.unask(6), 2);
        DUE.same("unask(6) again", x.unask(6), QuietChecks.NOT_POSSIBLE);
        DUE.same("unask(8)", x.unask(8), QuietChecks.NO_SUCH);
        DUE.same("unask(-1)", x.unask(-1), QuietChecks.NO_SUCH);
        DUE.same("span(3, 6)", x.span(3, 6), 0);
        DUE.same("span(6, 6)", x.span(6, 6), QuietChecks.NONE);
        DUE.same("span(1, 6) moves up", x.span(1, 6), 1);
        DUE.same("unask(3)", x.unask(3), 1);
        DUE.same("span(1, 6) moves up again", x.span(1, 6), 0);
        DUE.same("unask(1)", x.unask(1), 0);
        DUE.same("undo()", x.undo(), 5);
        DUE.same("count(8) undone", x.count(8), 1);
        x.set(0, 0);
        x.quiet(1);
        DUE.same("unask(1) has begun", x.unask(1), QuietChecks.NOT_POSSIBLE);
    }

    private static void promise8ReadPausesTheCheck() {
        QuietChecks x = new QuietChecks();
        x.set(0, 2);
        x.ask(2);
        x.quiet(7);
        DUE.same("begun at 3, done by", x.count(6), 5);
        DUE.same("read(5, 7)", x.read(5, 7), 0);
        DUE.same("the tick", x.count(0), 14);
        DUE.same("the quiet ticks", x.count(1), 0);
        DUE.same("done by 2 less", x.count(6), 3);
        DUE.same("it has still begun", x.count(5), 2);
        DUE.same("it takes as many", x.count(7), 10);
        DUE.same("pauses", x.count(10), 1);
        x.read(2, 1);
        DUE.same("done by 2 less again", x.count(6), 1);
        x.read(0, 200);
        DUE.same("but at least 0", x.count(6), 0);
        DUE.same("each is a pause", x.count(10), 3);
        DUE.log("pauses", x, "3 begins 2", "14 pauses 2", "15 pauses 2", "215 pauses 2");
        x.quiet(2);
        DUE.same("it waits again", x.count(6), 0);
        DUE.same("and is done again", x.quiet(9), 0);
        DUE.same("to its end", x.quiet(1), 1);
        DUE.same("stamp", x.span(2, 0), 227);
        DUE.same("span 0 begins, for it is due since 200", x.quiet(1), 0);
        DUE.same("undo()", x.undo(), 5);
        DUE.same("undo()", x.undo(), 4);
        DUE.same("undo()", x.undo(), 3);
        DUE.same("undo()", x.undo(), 2);
        DUE.same("undo() of the last read", x.undo(), 1);
        DUE.same("tick undone", x.count(0), 15);
        DUE.same("pauses undone", x.count(10), 2);
        DUE.same("entries undone", x.entries(), 3);
        DUE.same("done undone", x.count(6), 1);
        QuietChecks y = new QuietChecks();
        y.quiet(3);
        y.read(0, 4);
        DUE.same("without a check there is no pause", y.count(10), 0);
        DUE.same("and no entry", y.entries(), 0);
        DUE.same("but the host is not quiet", y.count(1), 0);
    }

    private static void promise8SlowReads() {
        QuietChecks x = eager();
        x.spot(3, 4);
        DUE.same("4 tries are not slow", x.read(3, 1), 0);
        x.spot(3, 5);
        DUE.same("5 tries are slow", x.read(3, 1), 1);
        DUE.same("another span is not", x.read(2, 1), 0);
        DUE.same("asked for", x.span(3, 6), 0);
        DUE.same("slow again", x.read(3, 1), 1);
        DUE.same("but asked for once", x.count(8), 1);
        DUE.same("slow reads", x.count(12), 2);
        x.quiet(1);
        DUE.same("its check has begun", x.count(5), 3);
        DUE.same("slow while it is checked", x.read(3, 10), 1);
        DUE.same("not asked for then", x.count(8), 0);
        DUE.log("slow comes behind pauses", x, "2 slow 3", "4 slow 3", "5 begins 3", "15 pauses 3", "15 slow 3");
        x.set(3, 6);
        DUE.same("by the limit as it is now", x.read(3, 1), 0);
        x.set(3, 5);
        for (int span = 0; span < 8; span++) {
            if (span != 3 && span != 6) {
                x.ask(span);
            }
        }
        x.spot(6, 9);
        DUE.same("the list is full", x.count(8), 6);
        DUE.same("slow all the same", x.read(6, 1), 1);
        DUE.same("not asked for", x.span(6, 6), QuietChecks.NONE);
        DUE.same("slow reads", x.count(12), 4);
        DUE.same("undo()", x.undo(), 5);
        DUE.same("slow reads undone", x.count(12), 3);
    }

    private static void promise8ReadRefuses() {
        QuietChecks x = Disks.late(99800);
        long before = x.digest();
        DUE.same("read(8, 1)", x.read(8, 1), QuietChecks.NO_SUCH);
        DUE.same("read(-1, 0): NO_SUCH is named first", x.read(-1, 0), QuietChecks.NO_SUCH);
        DUE.same("read(0, 0)", x.read(0, 0), QuietChecks.BAD_VALUE);
        DUE.same("read(0, 201): BAD_VALUE is named first", x.read(0, 201), QuietChecks.BAD_VALUE);
        DUE.same("read(0, 200) makes 100000", x.read(0, 200), QuietChecks.LIMIT);
        DUE.same("nothing has changed", x.digest(), before);
        DUE.same("read(0, 199) makes 99999", x.read(0, 199), 0);
        DUE.same("the tick", x.count(0), 99999);
        DUE.same("read(0, 1)", x.read(0, 1), QuietChecks.LIMIT);
        DUE.same("read(0, 0)", x.read(0, 0), QuietChecks.BAD_VALUE);
    }

    private static void promise9WaitsFirst() {
        QuietChecks x = new QuietChecks();
        x.ask(4);
        DUE.same("quiet(5)", x.quiet(5), 0);
        DUE.same("the quiet ticks", x.count(1), 5);
        DUE.same("nothing has begun", x.count(5), QuietChecks.NONE);
        DUE.same("quiet(1)", x.quiet(1), 0);
        DUE.same("it has begun", x.count(5), 4);
        DUE.same("and is done by 1", x.count(6), 1);
        DUE.same("the count goes no further", x.count(1), 5);
        DUE.log("begins", x, "6 begins 4");
        DUE.same("quiet(8)", x.quiet(8), 0);
        DUE.same("quiet(1)", x.quiet(1), 1);
        DUE.same("the stamp is the tick", x.span(4, 0), 15);
        DUE.log("ends", x, "6 begins 4", "15 ends 4");
        DUE.same("no check", x.count(5), QuietChecks.NONE);
        DUE.same("done by 0", x.count(6), 0);
        DUE.same("takes 0", x.count(7), 0);
        DUE.same("nothing is due until 200", x.quiet(184), 0);
        DUE.same("the tick", x.count(0), 199);
        DUE.same("no check", x.count(5), QuietChecks.NONE);
        x.quiet(1);
        DUE.same("then the first one begins", x.count(5), 0);
    }

    private static void promise9WaitThatChanges() {
        QuietChecks x = new QuietChecks();
        x.ask(4);
        x.quiet(7);
        DUE.same("done by 2", x.count(6), 2);
        x.set(0, 7);
        x.quiet(2);
        DUE.same("a longer wait holds the check up", x.count(6), 2);
        DUE.same("the count grows", x.count(1), 7);
        x.set(0, 1);
        x.quiet(1);
        DUE.same("a shorter wait lets it go on", x.count(6), 3);
        DUE.same("the count stays", x.count(1), 7);
    }

    private static void promise9ChecksEnd() {
        QuietChecks x = eager();
        x.set(1, 4);
        x.set(2, 2);
        x.spot(3, 2);
        x.spot(1, 9);
        x.spot(3, 5);
        x.spot(3, 9);
        x.spot(3, 4);
        x.ask(3);
        DUE.same("quiet(35)", x.quiet(35), 0);
        DUE.same("4 + 2 * (2 + 5 + 5 + 4) ticks", x.count(7), 36);
        DUE.same("done by", x.count(6), 35);
        DUE.same("quiet(1)", x.quiet(1), 1);
        DUE.spots("one more try, or replaced", x, 3, 3, 5);
        DUE.spots("another span's stay as they are", x, 1, 9);
        DUE.same("spares", x.count(3), 4);
        DUE.same("replaced", x.count(11), 2);
        DUE.same("ended", x.count(9), 1);
        DUE.same("spots", x.count(2), 3);
        DUE.log("replaced", x, "1 begins 3", "36 ends 3", "36 replaced 3", "36 replaced 3");
        DUE.same("undo()", x.undo(), 5);
        DUE.spots("undone", x, 3, 2, 5, 9, 4);
        DUE.same("spares undone", x.count(3), 6);
        DUE.same("ended undone", x.count(9), 0);
        DUE.same("several checks in one call", ticksOfSeveral(), 3);
    }

    private static int ticksOfSeveral() {
        QuietChecks x = eager();
        x.set(1, 1);
        x.ask(0);
        x.ask(5);
        x.ask(2);
        int ends = x.quiet(3);
        DUE.log("one a tick", x, "1 begins 0", "1 ends 0", "2 begins 5", "2 ends 5", "3 begins 2", "3 ends 2");
        return ends;
    }

    private static void promise9WantOfSpares() {
        QuietChecks x = eager();
        x.set(1, 1);
        x.set(2, 1);
        x.set(3, 2);
        for (int tries = 9; tries >= 2; tries--) {
            x.spot(0, tries);
        }
        x.spot(0, 1);
        x.ask(0);
        DUE.same("1 + 8 * 2 + 1 ticks", x.quiet(17), 0);
        DUE.same("and then", x.quiet(1), 1);
        DUE.spots("the first six are replaced", x, 0, 3, 2, 2);
        DUE.same("no spare is left", x.count(3), 0);
        DUE.same("replaced", x.count(11), 6);
        DUE.log("the log has wrapped nothing yet", x, "1 begins 0", "18 ends 0", "18 replaced 0", "18 replaced 0",
                "18 replaced 0", "18 replaced 0", "18 replaced 0", "18 replaced 0", "18 stays 0", "18 stays 0");
        DUE.same("addSpares(1)", x.addSpares(1), 1);
        x.ask(0);
        x.quiet(7);
        DUE.spots("one more is replaced", x, 0, 2, 2);
        DUE.log("the log has wrapped", x, "18 replaced 0", "18 replaced 0", "18 replaced 0", "18 stays 0", "18 stays 0",
                "19 begins 0", "25 ends 0", "25 replaced 0", "25 stays 0", "25 stays 0");
    }

    private static void promise9LimitAtTheEnd() {
        QuietChecks x = eager();
        x.set(1, 1);
        x.set(2, 1);
        x.spot(6, 3);
        x.ask(6);
        x.quiet(3);
        x.set(3, 3);
        x.spot(6, 2);
        DUE.same("it ends", x.quiet(1), 1);
        DUE.spots("looked at by the limit and the spots of its end", x, 6, 3);
        DUE.log("end", x, "1 begins 6", "4 ends 6", "4 replaced 6");
        QuietChecks y = eager();
        y.spot(6, 9);
        y.ask(6);
        y.quiet(25);
        DUE.same("the spot is gone", y.count(2), 0);
        DUE.same("so that a read is not slow", y.read(6, 1), 0);
    }

    private static void promise9QuietRefuses() {
        QuietChecks x = Disks.late(99500);
        long before = x.digest();
        DUE.same("quiet(0)", x.quiet(0), QuietChecks.BAD_VALUE);
        DUE.same("quiet(-1)", x.quiet(-1), QuietChecks.BAD_VALUE);
        DUE.same("quiet(501): BAD_VALUE is named first", x.quiet(501), QuietChecks.BAD_VALUE);
        DUE.same("quiet(500) makes 100000", x.quiet(500), QuietChecks.LIMIT);
        DUE.same("nothing has changed", x.digest(), before);
        DUE.holds("quiet(499) makes 99999", x.quiet(499) >= 0);
        DUE.same("the tick", x.count(0), 99999);
        DUE.same("quiet(1)", x.quiet(1), QuietChecks.LIMIT);
    }

    private static void promise10GiveUp() {
        QuietChecks x = eager();
        DUE.same("no check has begun", x.giveUp(), QuietChecks.NOT_POSSIBLE);
        x.ask(3);
        x.ask(5);
        x.quiet(4);
        DUE.same("giveUp()", x.giveUp(), 4);
        DUE.same("no check", x.count(5), QuietChecks.NONE);
        DUE.same("done by 0", x.count(6), 0);
        DUE.same("takes 0", x.count(7), 0);
        DUE.same("as old as before", x.span(3, 1), 4);
        DUE.log("no entry", x, "1 begins 3");
        DUE.same("not asked for again", x.count(8), 1);
        DUE.same("ended", x.count(9), 0);
        DUE.same("giveUp() again", x.giveUp(), QuietChecks.NOT_POSSIBLE);
        DUE.same("undo()", x.undo(), 4);
        DUE.same("it has begun", x.count(5), 3);
        DUE.same("done by", x.count(6), 4);
        x.giveUp();
        x.quiet(1);
        DUE.same("the next one", x.count(5), 5);
        DUE.same("done by", x.count(6), 1);
        x.read(0, 1);
        DUE.same("done by 0 ticks", x.giveUp(), 0);
    }
}
