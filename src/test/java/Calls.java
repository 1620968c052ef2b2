/** The calls of the document's face by their numbers, in its order. */
final class Calls {
    static final String[] NAMES = {
        "set", "setWay", "addSpares", "spot", "ask", "unask", "read", "quiet", "giveUp", "count", "setting", "span",
        "tries", "entries", "entry", "lineAt", "overdue", "nextCheck", "checkedIn", "ifQuiet", "bestWay", "type",
        "clearText", "syntaxError", "carryOut", "undo", "digest",
    };
    static final int READ = 6;
    static final int QUIET = 7;
    static final int CHECKED_IN = 18;
    static final int BEST_WAY = 20;
    static final int TYPE = 21;
    static final int CARRY_OUT = 24;
    static final int DIGEST = 26;

    private Calls() {
    }

    static long answer(QuietChecks x, int[] call) {
        int a = call[1];
        int b = call[2];
        return switch (call[0]) {
            case 0 -> x.set(a, b);
            case 1 -> x.setWay(a);
            case 2 -> x.addSpares(a);
            case 3 -> x.spot(a, b);
            case 4 -> x.ask(a);
            case 5 -> x.unask(a);
            case 6 -> x.read(a, b);
            case 7 -> x.quiet(a);
            case 8 -> x.giveUp();
            case 9 -> x.count(a);
            case 10 -> x.setting(a);
            case 11 -> x.span(a, b);
            case 12 -> x.tries(a, b);
            case 13 -> x.entries();
            case 14 -> x.entry(a, b);
            case 15 -> x.lineAt(a, b);
            case 16 -> x.overdue();
            case 17 -> x.nextCheck();
            case 18 -> x.checkedIn(a);
            case 19 -> x.ifQuiet(a);
            case 20 -> x.bestWay(a);
            case 21 -> x.type(a);
            case 22 -> x.clearText();
            case 23 -> x.syntaxError();
            case 24 -> x.carryOut();
            case 25 -> x.undo();
            default -> x.digest();
        };
    }
}
