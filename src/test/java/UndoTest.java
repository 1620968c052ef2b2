/** Promises 27 and 28: undo, digest. */
public final class UndoTest {
    private static final Due DUE = new Due("UndoTest");

    public static void main(String[] args) {
        promise27EachUndoable();
        promise27AtMostSix();
        promise27ErrorsSaveNothing();
        promise27ErrorsSaveNothingWhenFull();
        promise27AskingSavesNothing();
        promise27TextStays();
        promise27RowGoesOnAsBefore();
        promise27LogThatWraps();
        promise27AfterUndo();
        promise28NewObject();
        promise28ByTheList();
        DUE.end();
    }

    /** An object in the midst of things: a check has begun, another one waits, the log has wrapped. */
    private static QuietChecks busy() {
        QuietChecks x = new QuietChecks();
        x.set(0, 1);
        x.set(4, 60);
        x.setWay(2);
        x.spot(2, 3);
        x.spot(5, 9);
        x.spot(5, 4);
        x.read(5, 30);
        x.quiet(120);
        x.ask(4);
        x.ask(1);
        return x;
    }

    private static long change(QuietChecks x, int which) {
        switch (which) {
            case 0:
                return x.set(3, 9);
            case 1:
                return x.setWay(1);
            case 2:
                return x.addSpares(3);
            case 3:
                return x.spot(5, 6);
            case 4:
                return x.ask(7);
            case 5:
                return x.unask(4);
            case 6:
                return x.read(5, 100);
            case 7:
                return x.quiet(300);
            case 8:
                return x.giveUp();
            default:
                Due.text(x, "spot 3:4;quiet 100;ask 6");
                return x.carryOut();
        }
    }

    private static void promise27EachUndoable() {
        DUE.holds("a check has begun", busy().count(5) >= 0);
        for (int which = 0; which < 10; which++) {
            QuietChecks x = busy();
            long before = x.digest();
            int entries = x.entries();
            DUE.holds("call " + which + " is possible", change(x, which) >= 0);
            DUE.holds("call " + which + " changes something", x.digest() != before);
            DUE.same("undo() of call " + which, x.undo(), 5);
            DUE.same("digest() after undo of call " + which, x.digest(), before);
            DUE.same("entries() after undo of call " + which, x.entries(), entries);
            QuietChecks y = busy();
            DUE.same("the same goes on from there", x.quiet(500), y.quiet(500));
            DUE.same("to the same state", x.digest(), y.digest());
        }
    }

    private static void promise27AtMostSix() {
        QuietChecks x = new QuietChecks();
        for (int tick = 1; tick <= 20; tick++) {
            x.quiet(1);
        }
        for (int left = 5; left >= 0; left--) {
            DUE.same("undo()", x.undo(), left);
            DUE.same("tick", x.count(0), 14 + left);
        }
        DUE.same("no state is left", x.undo(), QuietChecks.NOT_POSSIBLE);
        DUE.same("tick", x.count(0), 14);
    }

    private static void promise27ErrorsSaveNothingWhenFull() {
        QuietChecks x = new QuietChecks();
        for (int tick = 1; tick <= 20; tick++) {
            x.quiet(1);
            DUE.same("quiet(0)", x.quiet(0), QuietChecks.BAD_VALUE);
        }
        for (int left = 5; left >= 0; left--) {
            DUE.same("quiet(501)", x.quiet(501), QuietChecks.BAD_VALUE);
            DUE.same("undo()", x.undo(), left);
            DUE.same("tick", x.count(0), 14 + left);
        }
    }

    private static void promise27ErrorsSaveNothing() {
        QuietChecks x = new QuietChecks();
        x.quiet(7);
        for (int i = 0; i < 10; i++) {
            x.set(9, 1);
            x.set(0, 99);
            x.setWay(7);
            x.addSpares(0);
            x.spot(0, 0);
            x.ask(-1);
            x.unask(0);
            x.read(0, 0);
            x.quiet(0);
            x.giveUp();
            x.carryOut();
            x.type(0);
        }
        DUE.same("undo()", x.undo(), 0);
        DUE.same("tick", x.count(0), 0);
    }

    private static void promise27AskingSavesNothing() {
        QuietChecks x = new QuietChecks();
        x.quiet(7);
        for (int i = 0; i < 10; i++) {
            x.count(0);
            x.setting(0);
            x.span(0, 0);
            x.tries(0, 0);
            x.entries();
            x.entry(0, 0);
            x.lineAt(0, 0);
            x.overdue();
            x.nextCheck();
            x.checkedIn(0);
            x.ifQuiet(5);
            x.bestWay(5);
            x.type('a');
            x.syntaxError();
            x.clearText();
            x.digest();
        }
        DUE.same("undo()", x.undo(), 0);
    }

    private static void promise27TextStays() {
        QuietChecks x = new QuietChecks();
        x.ask(1);
        Due.text(x, "way row");
        DUE.same("undo()", x.undo(), 0);
        DUE.same("the text stays", x.carryOut(), 1);
        DUE.same("way", x.count(4), 2);
        Due.text(x, "as");
        DUE.same("undo() of carryOut", x.undo(), 0);
        DUE.same("way undone", x.count(4), 0);
        DUE.same("the text is as it was", x.clearText(), 2);
    }

    private static void promise27RowGoesOnAsBefore() {
        QuietChecks x = new QuietChecks();
        x.set(0, 0);
        x.setWay(2);
        x.set(1, 1);
        x.quiet(200);
        x.quiet(1);
        DUE.same("behind 1", x.nextCheck(), 2);
        x.ask(6);
        x.quiet(1);
        DUE.same("behind 6", x.nextCheck(), 7);
        x.undo();
        x.undo();
        DUE.same("behind 1 again", x.nextCheck(), 2);
        x.undo();
        DUE.same("behind 0", x.nextCheck(), 1);
    }

    private static void promise27LogThatWraps() {
        QuietChecks x = new QuietChecks();
        x.spot(0, 9);
        for (int i = 0; i < 13; i++) {
            x.read(0, 1);
        }
        DUE.same("oldest entry", x.entry(0, 0), 4);
        x.undo();
        x.undo();
        DUE.same("oldest entry undone", x.entry(0, 0), 2);
        DUE.same("latest entry undone", x.entry(9, 0), 11);
        x.undo();
        x.undo();
        DUE.same("entries undone", x.entries(), 9);
        DUE.same("oldest entry", x.entry(0, 0), 1);
    }

    private static void promise27AfterUndo() {
        QuietChecks x = new QuietChecks();
        for (int i = 0; i < 9; i++) {
            x.quiet(1);
        }
        x.undo();
        x.undo();
        x.quiet(10);
        x.quiet(20);
        DUE.same("tick", x.count(0), 37);
        DUE.same("undo()", x.undo(), 5);
        DUE.same("tick", x.count(0), 17);
        DUE.same("undo()", x.undo(), 4);
        DUE.same("tick", x.count(0), 7);
        DUE.same("undo()", x.undo(), 3);
        DUE.same("tick", x.count(0), 6);
        x.quiet(100);
        DUE.same("undo()", x.undo(), 3);
        DUE.same("tick", x.count(0), 6);
    }

    private static void promise28NewObject() {
        long hash = 448;
        long[] values = new long[13 + 5 + 8 * 7 + 3];
        values[3] = 6;
        values[5] = -6;
        long[] settings = {5, 10, 3, 5, 400};
        System.arraycopy(settings, 0, values, 13, 5);
        for (int span = 0; span < 8; span++) {
            values[18 + 7 * span + 5] = 10;
            values[18 + 7 * span + 6] = -6;
        }
        values[76] = -6;
        for (long value : values) {
            hash = 31 * hash + value;
        }
        DUE.same("digest() of a new object", new QuietChecks().digest(), hash);
    }

    private static void promise28ByTheList() {
        for (int steps = 0; steps <= 12; steps++) {
            QuietChecks x = busy();
            for (int step = 0; step < steps; step++) {
                change(x, step % 10);
            }
            DUE.same("digest() after " + steps + " steps", x.digest(), hash(x));
        }
        QuietChecks x = busy();
        x.type('a');
        long before = x.digest();
        x.clearText();
        DUE.same("the text is not in it", x.digest(), before);
        DUE.same("it changes nothing", x.digest(), before);
    }

    private static long hash(QuietChecks x) {
        long hash = 448;
        for (int what = 0; what <= 12; what++) {
            hash = hash * 31 + x.count(what);
        }
        for (int setting = 0; setting <= 4; setting++) {
            hash = hash * 31 + x.setting(setting);
        }
        for (int span = 0; span < 8; span++) {
            for (int what = 0; what <= 6; what++) {
                hash = hash * 31 + x.span(span, what);
            }
            for (int index = 0; index < x.span(span, 2); index++) {
                hash = hash * 31 + x.tries(span, index);
            }
        }
        hash = hash * 31 + x.entries();
        int entries = x.entries();
        for (int index = 0; index < entries; index++) {
            for (int what = 0; what <= 2; what++) {
                hash = hash * 31 + x.entry(index, what);
            }
            String line = Due.line(x, index);
            for (int place = 0; place < line.length(); place++) {
                hash = hash * 31 + line.charAt(place);
            }
        }
        hash = hash * 31 + x.overdue();
        return hash * 31 + x.nextCheck();
    }
}
