/** Promises 11 to 19: count, span, tries, entries, entry, lineAt, overdue, nextCheck. Promise 12 is in SettingsTest. */
public final class AskingTest {
    private static final Due DUE = new Due("AskingTest");

    public static void main(String[] args) {
        promise11Count();
        promise13Span();
        promise13DueAndOverdue();
        promise14Tries();
        promise15To17Log();
        promise17Characters();
        promise18Overdue();
        promise19Oldest();
        promise19Worst();
        promise19Row();
        promise19NowAndAsked();
        DUE.end();
    }

    private static void counts(String when, QuietChecks x, int... wants) {
        for (int what = 0; what < wants.length; what++) {
            DUE.same(when + ": count(" + what + ")", x.count(what), wants[what]);
        }
    }

    private static void promise11Count() {
        QuietChecks x = new QuietChecks();
        x.set(0, 3);
        x.setWay(1);
        x.addSpares(2);
        x.spot(2, 5);
        x.spot(2, 2);
        x.spot(6, 9);
        x.ask(2);
        x.ask(4);
        x.ask(7);
        x.quiet(13);
        counts("in a check", x, 13, 3, 3, 8, 1, 2, 10, 31, 2, 0, 0, 0, 0);
        x.read(6, 20);
        counts("paused", x, 33, 0, 3, 8, 1, 2, 8, 31, 3, 0, 1, 0, 1);
        DUE.same("quiet(26)", x.quiet(26), 1);
        counts("ended", x, 59, 3, 2, 7, 1, QuietChecks.NONE, 0, 0, 3, 1, 1, 1, 1);
        DUE.same("count(13)", x.count(13), QuietChecks.BAD_VALUE);
        DUE.same("count(-1)", x.count(-1), QuietChecks.BAD_VALUE);
    }

    private static void promise13Span() {
        QuietChecks x = new QuietChecks();
        x.spot(1, 9);
        x.spot(1, 2);
        x.spot(0, 1);
        x.ask(5);
        x.ask(1);
        x.quiet(100);
        // 5 begins at 6 and ends at 15; 1 begins at 16 and takes 10 + 3 * (5 + 2)
        int[] one = {46, 54, 1, 3, 0, 19, QuietChecks.NONE};
        for (int what = 0; what < one.length; what++) {
            DUE.same("span(1, " + what + ")", x.span(1, what), one[what]);
        }
        DUE.same("span(5, 0)", x.span(5, 0), 15);
        DUE.same("span(0, 5)", x.span(0, 5), 13);
        x.ask(6);
        x.ask(1);
        DUE.same("span(6, 6)", x.span(6, 6), 0);
        DUE.same("span(1, 6)", x.span(1, 6), 1);
        x.spot(1, 8);
        DUE.same("the sum counts tries in full", x.span(1, 3), 11);
        DUE.same("a check counts them up to the limit", x.span(1, 5), 34);
        x.set(3, 9);
        DUE.same("by the limit as it is", x.span(1, 5), 43);
        x.set(2, 9);
        x.set(1, 40);
        DUE.same("by the other settings as they are", x.span(1, 5), 139);
        DUE.same("span(8, 0)", x.span(8, 0), QuietChecks.NO_SUCH);
        DUE.same("span(-1, 9): NO_SUCH is named first", x.span(-1, 9), QuietChecks.NO_SUCH);
        DUE.same("span(0, 7)", x.span(0, 7), QuietChecks.BAD_VALUE);
        DUE.same("span(0, -1)", x.span(0, -1), QuietChecks.BAD_VALUE);
    }

    private static void promise13DueAndOverdue() {
        QuietChecks x = new QuietChecks();
        x.set(0, 50);
        x.set(4, 51);
        x.read(0, 24);
        DUE.same("24 is less than 51 / 2", x.span(3, 4), 0);
        x.read(0, 1);
        DUE.same("25 is due", x.span(3, 4), 1);
        x.read(0, 26);
        DUE.same("51 is not greater than 51", x.span(3, 4), 1);
        DUE.same("none is overdue", x.overdue(), 0);
        x.read(0, 1);
        DUE.same("52 is overdue", x.span(3, 4), 2);
        DUE.same("all are overdue", x.overdue(), 8);
        x.set(4, 104);
        DUE.same("by the setting as it is: due", x.span(3, 4), 1);
        x.set(4, 105);
        DUE.same("105 / 2 is 52: due", x.span(3, 4), 1);
        x.set(4, 106);
        DUE.same("106 / 2 is 53: not due", x.span(3, 4), 0);
    }

    private static void promise14Tries() {
        QuietChecks x = new QuietChecks();
        x.spot(7, 3);
        x.spot(0, 4);
        x.spot(7, 8);
        DUE.same("tries(7, 0)", x.tries(7, 0), 3);
        DUE.same("tries(7, 1)", x.tries(7, 1), 8);
        DUE.same("tries(0, 0)", x.tries(0, 0), 4);
        DUE.same("tries(7, 2)", x.tries(7, 2), QuietChecks.NO_SUCH);
        DUE.same("tries(7, -1)", x.tries(7, -1), QuietChecks.NO_SUCH);
        DUE.same("tries(1, 0)", x.tries(1, 0), QuietChecks.NO_SUCH);
        DUE.same("tries(8, 0)", x.tries(8, 0), QuietChecks.NO_SUCH);
        DUE.same("tries(-1, 0)", x.tries(-1, 0), QuietChecks.NO_SUCH);
    }

    private static void promise15To17Log() {
        QuietChecks x = new QuietChecks();
        DUE.same("entry(0, 0) of none", x.entry(0, 0), QuietChecks.NO_SUCH);
        x.set(0, 0);
        x.set(1, 1);
        for (int check = 0; check < 5; check++) {
            x.ask(check);
            DUE.same("entries()", x.entries(), 2 * check);
            x.quiet(1);
        }
        DUE.same("entries()", x.entries(), 10);
        DUE.same("entry(0, 0)", x.entry(0, 0), 1);
        DUE.same("entry(0, 1)", x.entry(0, 1), 1);
        DUE.same("entry(9, 0)", x.entry(9, 0), 5);
        DUE.same("entry(9, 1)", x.entry(9, 1), 3);
        DUE.same("entry(9, 2)", x.entry(9, 2), 4);
        DUE.same("entry(9, 3)", x.entry(9, 3), "5 ends 4".length());
        x.spot(7, 9);
        x.read(7, 1);
        DUE.same("at most 10", x.entries(), 10);
        DUE.log("the latest", x, "1 ends 0", "2 begins 1", "2 ends 1", "3 begins 2", "3 ends 2", "4 begins 3",
                "4 ends 3", "5 begins 4", "5 ends 4", "6 slow 7");
        DUE.same("entry(9, 1)", x.entry(9, 1), 6);
        for (int check = 0; check < 12; check++) {
            x.read(7, 1);
        }
        DUE.same("entry(0, 0) after more than another round", x.entry(0, 0), 9);
        DUE.same("entry(9, 0) after more than another round", x.entry(9, 0), 18);
        DUE.same("entry(10, 0)", x.entry(10, 0), QuietChecks.NO_SUCH);
        DUE.same("entry(-1, 9): NO_SUCH is named first", x.entry(-1, 9), QuietChecks.NO_SUCH);
        DUE.same("entry(0, 4)", x.entry(0, 4), QuietChecks.BAD_VALUE);
        DUE.same("entry(0, -1)", x.entry(0, -1), QuietChecks.BAD_VALUE);
        DUE.same("lineAt(0, 0) of \"9 slow 7\"", x.lineAt(0, 0), '9');
        DUE.same("lineAt(9, 1) of \"18 slow 7\"", x.lineAt(9, 1), '8');
        DUE.same("lineAt(0, 1) of \"9 slow 7\"", x.lineAt(0, 1), ' ');
        DUE.same("lineAt(0, 8) behind \"9 slow 7\"", x.lineAt(0, 8), QuietChecks.NO_SUCH);
        DUE.same("lineAt(9, 8) of \"18 slow 7\"", x.lineAt(9, 8), '7');
        DUE.same("lineAt(10, 0)", x.lineAt(10, 0), QuietChecks.NO_SUCH);
        DUE.same("lineAt(-1, 0)", x.lineAt(-1, 0), QuietChecks.NO_SUCH);
    }

    private static void promise17Characters() {
        QuietChecks x = Disks.late(99990);
        x.spot(6, 9);
        x.set(0, 0);
        x.set(1, 1);
        x.set(2, 1);
        while (x.count(5) == QuietChecks.NONE) {
            x.giveUp();
            x.ask(6);
            x.quiet(1);
        }
        String line = Due.line(x, 9);
        DUE.same("length", x.entry(9, 3), line.length());
        DUE.holds("five digits: " + line, line.startsWith("9999") && line.endsWith(" begins " + x.count(5)));
        DUE.same("first character", x.lineAt(9, 0), '9');
        DUE.same("blank", x.lineAt(9, 5), ' ');
        DUE.same("last character", x.lineAt(9, line.length() - 1), '0' + x.count(5));
        DUE.same("behind the last character", x.lineAt(9, line.length()), QuietChecks.NO_SUCH);
        DUE.same("before the first character", x.lineAt(9, -1), QuietChecks.NO_SUCH);
    }

    private static void promise18Overdue() {
        QuietChecks x = new QuietChecks();
        x.set(4, 50);
        x.set(0, 0);
        x.set(1, 20);
        x.ask(3);
        x.quiet(20);
        x.giveUp();
        x.set(0, 50);
        x.read(0, 30);
        DUE.same("50 ticks are not overdue", x.overdue(), 0);
        x.read(0, 1);
        DUE.same("51 are, but span 3 is younger", x.overdue(), 7);
        x.read(0, 19);
        DUE.same("50 of span 3", x.overdue(), 7);
        x.read(0, 1);
        DUE.same("51 of span 3", x.overdue(), 8);
    }

    /** Checks the asked spans, each in one tick, and lets the disk wait afterwards. */
    private static QuietChecks checked(int way, int... spans) {
        QuietChecks x = new QuietChecks();
        x.set(0, 0);
        x.set(1, 1);
        x.set(4, 50);
        x.setWay(way);
        for (int span : spans) {
            x.ask(span);
            x.quiet(1);
        }
        x.set(0, 50);
        return x;
    }

    private static void promise19Oldest() {
        QuietChecks x = checked(0, 0, 1, 2, 4, 5, 7, 6, 3, 1);
        // stamps: 0:1 1:9 2:3 3:8 4:4 5:5 6:7 7:6
        x.read(0, 16);
        DUE.same("none is due at 25", x.nextCheck(), QuietChecks.NONE);
        x.read(0, 1);
        DUE.same("0 is due at 26", x.nextCheck(), 0);
        x.read(0, 40);
        DUE.same("the oldest", x.nextCheck(), 0);
        x.ask(0);
        x.set(0, 0);
        x.quiet(1);
        DUE.same("then 2", x.nextCheck(), 2);
        x.quiet(1);
        DUE.same("then 4", x.nextCheck(), 4);
        QuietChecks y = checked(0);
        y.read(0, 30);
        DUE.same("equal ones by ascending numbers", y.nextCheck(), 0);
    }

    private static void promise19Worst() {
        QuietChecks x = checked(1, 6);
        x.read(0, 24);
        DUE.same("6 has an age of 24", x.span(6, 1), 24);
        x.spot(6, 9);
        x.spot(6, 9);
        DUE.same("6 is the worst, but not due; the first of the others", x.nextCheck(), 0);
        x.spot(5, 7);
        DUE.same("the greatest sum", x.nextCheck(), 5);
        x.spot(2, 4);
        x.spot(2, 3);
        DUE.same("equal ones by ascending numbers", x.nextCheck(), 2);
        x.spot(3, 8);
        DUE.same("each tries in full, beyond the limit", x.nextCheck(), 3);
        x.read(0, 1);
        DUE.same("6 is due now", x.nextCheck(), 6);
        QuietChecks y = checked(1);
        y.spot(4, 1);
        DUE.same("none is due", y.nextCheck(), QuietChecks.NONE);
    }

    private static void promise19Row() {
        QuietChecks x = checked(2);
        x.read(0, 30);
        DUE.same("before the first check the lowest number", x.nextCheck(), 0);
        x.ask(5);
        x.set(0, 0);
        x.quiet(1);
        DUE.same("behind 5", x.nextCheck(), 6);
        x.quiet(1);
        DUE.same("behind 6", x.nextCheck(), 7);
        x.quiet(1);
        DUE.same("behind 7 comes 0", x.nextCheck(), 0);
        x.quiet(5);
        DUE.same("5, 6 and 7 are not due", x.nextCheck(), QuietChecks.NONE);
        QuietChecks y = checked(2, 2, 0, 1, 3, 4, 5, 6, 7, 2);
        // stamps: 2:9 and the others 2 to 8
        y.read(0, 24);
        DUE.same("behind 2 the first due one: 3 has an age of 29", y.nextCheck(), 3);
        y.set(4, 60);
        DUE.same("30 are needed: 0, behind 7", y.nextCheck(), 0);
        y.set(4, 50);
        y.setWay(0);
        DUE.same("the oldest is 0", y.nextCheck(), 0);
        promise19RowComesToItselfLast();
    }

    private static void promise19RowComesToItselfLast() {
        QuietChecks x = checked(2, 0, 1, 2, 3, 4, 5, 6, 7, 3);
        // 3 ended last, at 9; at 34 it is due, and all others are older
        x.read(0, 25);
        DUE.same("4 first", x.nextCheck(), 4);
        QuietChecks y = checked(2, 3);
        y.set(1, 40);
        y.read(0, 60);
        y.set(0, 0);
        // the check of 1 is given up, so the row still begins behind 3
        y.ask(1);
        y.quiet(1);
        y.giveUp();
        DUE.same("a check that is given up has not ended", y.nextCheck(), 4);
        QuietChecks z = new QuietChecks();
        z.set(0, 0);
        z.set(1, 1);
        z.set(4, 100);
        z.setWay(2);
        z.quiet(49);
        z.ask(6);
        z.quiet(1);
        // 6 ended at 50; the others are due at 50 and follow, 7 at 51, then 0 to 5 until 57
        z.quiet(7);
        DUE.same("all are young", z.nextCheck(), QuietChecks.NONE);
        z.ask(6);
        z.quiet(1);
        // stamps: 7:51 0:52 .. 5:57 6:58, so at 101 only 7 is due, at 108 all are
        z.set(0, 50);
        z.read(0, 43);
        DUE.same("7 alone", z.nextCheck(), 7);
        z.set(4, 2000);
        z.read(0, 200);
        DUE.same("none", z.nextCheck(), QuietChecks.NONE);
        z.set(4, 100);
        DUE.same("7 first, for 6 ended last", z.nextCheck(), 7);
        QuietChecks w = new QuietChecks();
        w.set(0, 0);
        w.set(1, 40);
        w.set(4, 80);
        w.setWay(2);
        w.spot(5, 1);
        w.ask(5);
        w.quiet(43);
        // 5 ended at 43 with its stamp there; the others are due already; checks of 40 ticks follow: 6, 7, 0 ..
        DUE.same("behind 5", w.nextCheck(), 6);
        w.quiet(40);
        DUE.same("behind 6, though 5 is due again", w.nextCheck(), 7);
    }

    private static void promise19NowAndAsked() {
        QuietChecks x = checked(0);
        x.ask(6);
        x.ask(2);
        DUE.same("the first in the list, due or not", x.nextCheck(), 6);
        x.set(0, 0);
        x.set(1, 10);
        x.quiet(1);
        DUE.same("6 has begun", x.count(5), 6);
        DUE.same("as if no check had begun", x.nextCheck(), 2);
        x.unask(2);
        DUE.same("nothing is due", x.nextCheck(), QuietChecks.NONE);
        x.read(0, 40);
        DUE.same("of those due", x.nextCheck(), 0);
        x.quiet(10);
        DUE.same("6 has ended", x.count(5), QuietChecks.NONE);
        x.quiet(1);
        DUE.same("0 has begun", x.count(5), 0);
        DUE.same("its age is as before, so it is the best one still", x.nextCheck(), 0);
        long before = x.digest();
        x.nextCheck();
        DUE.same("it changes nothing", x.digest(), before);
        DUE.same("no state is saved for it", x.undo(), 5);
    }
}
