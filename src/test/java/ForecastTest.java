/** Promises 20 to 22: checkedIn, ifQuiet, bestWay. */
public final class ForecastTest {
    private static final Due DUE = new Due("ForecastTest");

    public static void main(String[] args) {
        promise20CheckedIn();
        promise20StarvedSpan();
        promise20AtTheBound();
        promise20BeyondTheLastTick();
        promise21IfQuiet();
        promise22BestWayWorst();
        promise22BestWayRow();
        promise22BestWayOfThree();
        promise22BestWayRefuses();
        changeNothing();
        DUE.end();
    }

    private static void promise20CheckedIn() {
        QuietChecks x = new QuietChecks();
        // all are due at 200, and each check takes 10 ticks
        for (int span = 0; span < 8; span++) {
            DUE.same("checkedIn(" + span + ")", x.checkedIn(span), 209 + 10 * span);
        }
        DUE.same("checkedIn(8)", x.checkedIn(8), QuietChecks.NO_SUCH);
        DUE.same("checkedIn(-1)", x.checkedIn(-1), QuietChecks.NO_SUCH);
        x.ask(6);
        x.spot(6, 2);
        DUE.same("asked for: 5 to wait, 16 to check", x.checkedIn(6), 21);
        x.quiet(8);
        DUE.same("a check that has begun", x.checkedIn(6), 13);
        x.read(0, 30);
        DUE.same("a check that has paused: 5 to wait, 15 to go", x.checkedIn(6), 20);
        x.set(0, 0);
        DUE.same("without a wait", x.checkedIn(6), 15);
        x.quiet(14);
        DUE.same("in the next tick", x.checkedIn(6), 1);
        x.quiet(1);
        DUE.same("it has ended: it is the last of the next round", x.checkedIn(6), 269 + 19 - 53);
    }

    private static void promise20StarvedSpan() {
        QuietChecks x = new QuietChecks();
        x.set(0, 0);
        x.set(1, 40);
        x.set(3, 9);
        x.set(4, 50);
        x.setWay(1);
        for (int i = 0; i < 20; i++) {
            x.spot(i % 2, 9);
        }
        // 0 and 1 are due again whenever the other one has been checked, and no other span is as bad
        DUE.same("checkedIn(0)", x.checkedIn(0), 25 + 40 + 3 * 90 - 1);
        DUE.holds("checkedIn(1)", x.checkedIn(1) > x.checkedIn(0));
        DUE.same("checkedIn(7)", x.checkedIn(7), QuietChecks.NONE);
        x.ask(7);
        DUE.same("by hand it comes", x.checkedIn(7), 40);
    }

    private static void promise20AtTheBound() {
        QuietChecks x = new QuietChecks();
        x.set(1, 40);
        x.set(2, 9);
        x.set(3, 9);
        x.set(4, 2000);
        x.setWay(1);
        for (int i = 0; i < 20; i++) {
            x.spot(i % 3, 8);
        }
        // 0: 1000 to 1543, 1: to 2087, 2: to 2559; then, with 9 tries each, 0: to 3166, 1: to 3773, 2: to 4299;
        // then 0, which has lost 6 spots: to 4420, and 3 to 7, of 40 ticks each: to 4620
        DUE.same("checkedIn(2)", x.checkedIn(2), 2559);
        DUE.same("checkedIn(3)", x.checkedIn(3), QuietChecks.NONE);
        x.quiet(500);
        x.quiet(500);
        x.quiet(500);
        x.quiet(119);
        DUE.same("3001 ticks are too many", x.checkedIn(7), QuietChecks.NONE);
        x.quiet(1);
        DUE.same("3000 are not", x.checkedIn(7), 3000);
        DUE.same("checkedIn(3)", x.checkedIn(3), 4460 - 1620);
    }

    private static void promise20BeyondTheLastTick() {
        QuietChecks x = Disks.late(99999);
        x.set(0, 0);
        x.giveUp();
        x.ask(4);
        DUE.same("checkedIn(4) ends at 100009", x.checkedIn(4), 10);
        DUE.same("ifQuiet(3000)", x.ifQuiet(3000), 0);
        DUE.same("bestWay(3000)", x.bestWay(3000), 0);
        DUE.same("the tick", x.count(0), 99999);
    }

    private static void promise21IfQuiet() {
        QuietChecks x = new QuietChecks();
        DUE.same("ifQuiet(-1)", x.ifQuiet(-1), QuietChecks.BAD_VALUE);
        DUE.same("ifQuiet(3001)", x.ifQuiet(3001), QuietChecks.BAD_VALUE);
        x.set(0, 50);
        x.set(1, 10);
        x.set(4, 60);
        DUE.same("ifQuiet(0)", x.ifQuiet(0), 0);
        // due at 30, but they wait until 50: 0 begins at 51 and ends at 60, 1 at 70, 2 at 80
        DUE.same("ifQuiet(60)", x.ifQuiet(60), 0);
        DUE.same("ifQuiet(61)", x.ifQuiet(61), 7);
        DUE.same("ifQuiet(69)", x.ifQuiet(69), 7);
        DUE.same("ifQuiet(70)", x.ifQuiet(70), 6);
        DUE.same("ifQuiet(80)", x.ifQuiet(80), 5);
        // 7 ends at 130; 0 is overdue from 121 on
        DUE.same("ifQuiet(120)", x.ifQuiet(120), 1);
        DUE.same("ifQuiet(121)", x.ifQuiet(121), 2);
        x.read(0, 200);
        DUE.same("now", x.ifQuiet(0), 8);
        DUE.same("now", x.overdue(), 8);
        DUE.same("by the way that is set", x.ifQuiet(60), 7);
    }

    private static void promise22BestWayWorst() {
        QuietChecks x = new QuietChecks();
        x.set(0, 0);
        x.set(1, 1);
        x.set(2, 9);
        x.set(3, 2);
        x.set(4, 50);
        x.spot(0, 2);
        x.spot(0, 2);
        x.spot(0, 2);
        x.spot(1, 9);
        // at 25 "oldest" and "row" take 0, which lasts until 79; "worst" takes 1, which lasts until 43
        DUE.same("bestWay(60)", x.bestWay(60), 1);
        DUE.same("ifQuiet(60) by oldest", x.ifQuiet(60), 8);
        x.setWay(1);
        DUE.same("ifQuiet(60) by worst", x.ifQuiet(60), 7);
        DUE.same("bestWay(60) whatever is set", x.bestWay(60), 1);
        x.setWay(2);
        DUE.same("ifQuiet(60) by row", x.ifQuiet(60), 8);
        DUE.same("bestWay(50): none is overdue", x.bestWay(50), 0);
        DUE.same("bestWay(0)", x.bestWay(0), 0);
        DUE.same("the way stays", x.count(4), 2);
    }

    private static void promise22BestWayRow() {
        QuietChecks x = new QuietChecks();
        x.set(0, 0);
        x.set(1, 1);
        x.set(2, 9);
        x.set(3, 9);
        x.set(4, 50);
        x.spot(0, 9);
        x.ask(3);
        x.quiet(1);
        // at 25 "oldest" and "worst" take 0, which lasts until 106; "row" takes 4 to 7 first
        DUE.same("bestWay(59)", x.bestWay(59), 2);
        DUE.same("ifQuiet(59)", x.ifQuiet(59), 8);
        x.setWay(2);
        DUE.same("ifQuiet(59) by row", x.ifQuiet(59), 4);
        DUE.same("bestWay(24): none is overdue", x.bestWay(24), 0);
    }

    private static void promise22BestWayOfThree() {
        QuietChecks x = new QuietChecks();
        x.set(0, 0);
        x.set(1, 1);
        x.set(2, 9);
        x.set(3, 8);
        x.set(4, 50);
        x.spot(7, 9);
        x.ask(4);
        x.quiet(19);
        // a check of 7 takes 73 ticks, the others 1. "oldest": 0 to 3, 5, 6 from 25 on, 7 from 31 to 103; "worst": 7 from
        // 25 to 97, then 0 to 5; "row": 5, 6 from 25 on, 7 from 27 to 99, then 0 to 3
        int[] spans = {7, 1, 3};
        for (int way = 0; way < 3; way++) {
            x.setWay(way);
            DUE.same("ifQuiet(84) by way " + way, x.ifQuiet(84), spans[way]);
            DUE.same("bestWay(84) by way " + way, x.bestWay(84), 1);
        }
    }

    private static void promise22BestWayRefuses() {
        QuietChecks x = new QuietChecks();
        x.setWay(1);
        DUE.same("bestWay(-1)", x.bestWay(-1), QuietChecks.BAD_VALUE);
        DUE.same("bestWay(3001)", x.bestWay(3001), QuietChecks.BAD_VALUE);
        DUE.same("bestWay(3000)", x.bestWay(3000), 0);
    }

    private static void changeNothing() {
        QuietChecks x = new QuietChecks();
        x.spot(1, 8);
        x.ask(1);
        x.quiet(20);
        x.type('q');
        long before = x.digest();
        x.checkedIn(1);
        x.checkedIn(5);
        x.ifQuiet(3000);
        x.bestWay(3000);
        DUE.same("digest()", x.digest(), before);
        DUE.same("the text stays", x.clearText(), 1);
        DUE.same("no state is saved", x.undo(), 2);
    }
}
