import java.io.IOException;
import java.math.BigInteger;
import java.util.List;
import java.util.function.Supplier;
import java.util.function.ToLongFunction;

/** The edges of "Terms" on undo, error codes and constants, and of promises 27 and 28: undo, digest. */
public final class EdgesOfUndoTest {
    private static final Due DUE = new Due("EdgesOfUndoTest");

    /** Calls that are possible in the states busy and planned. */
    private static final List<ToLongFunction<QuietChecks>> CHANGES = List.of(
            x -> x.set(3, 9), x -> x.setWay(1), x -> x.addSpares(3), x -> x.spot(5, 6), x -> x.ask(7), x -> x.unask(4),
            x -> x.read(5, 100), x -> x.quiet(300), QuietChecks::giveUp, QuietChecks::carryOut);

    private static final List<String> WORDS = List.of("begins", "pauses", "ends", "replaced", "stays", "slow");

    public static void main(String[] args) throws IOException, ReflectiveOperationException {
        Edges.run(EdgesOfUndoTest.class, DUE);
    }

    /** The call saves one state, and undo brings all of it back; also if six states are saved already. */
    static void undoable(Due due, ToLongFunction<QuietChecks> call) {
        QuietChecks x = Disks.planned();
        due.holds("it is possible", call.applyAsLong(x) >= 0);
        due.same("undo()", x.undo(), 3);
        Refusals.alike(due, "undone", x, Disks.planned());
        QuietChecks y = Disks.busy();
        long before = y.digest();
        due.holds("it is possible", call.applyAsLong(y) >= 0);
        due.same("undo()", y.undo(), 5);
        due.same("digest()", y.digest(), before);
    }

    /** Its tick tells how many of the calls have not been undone. */
    private static QuietChecks ticks(int calls) {
        QuietChecks x = new QuietChecks();
        for (int i = 0; i < calls; i++) {
            x.quiet(1);
        }
        return x;
    }

    @Says(words = "Methods marked \"Undoable\" save the state from before the call if they return no error code.")
    static void savesIfPossible() {
        for (int which = 0; which < CHANGES.size(); which++) {
            QuietChecks x = Disks.planned();
            long before = x.digest();
            CHANGES.get(which).applyAsLong(x);
            DUE.holds("call " + which + " changes the state", x.digest() != before);
            DUE.same("one state more is saved", x.undo(), 3);
            DUE.same("that from before", x.digest(), before);
            DUE.same("the one before it", x.undo(), 2);
        }
        QuietChecks y = Disks.full();
        y.clearText();
        for (ToLongFunction<QuietChecks> refused : List.<ToLongFunction<QuietChecks>>of(
                x -> x.set(5, 1), x -> x.setWay(3), x -> x.addSpares(1), x -> x.spot(0, 1), x -> x.ask(6),
                x -> x.unask(6), x -> x.read(0, 0), x -> x.quiet(0), QuietChecks::carryOut)) {
            DUE.holds("it is refused", refused.applyAsLong(y) < 0);
        }
        DUE.same("the saved states are as before", y.undo(), 5);
        DUE.same("the latest one is undone", y.count(0), 35);
    }

    @Says(words = "At most 6 states are saved;")
    static void sixStates() {
        for (int calls : new int[] {0, 1, 5, 6, 7, 8, 12, 13, 14, 30}) {
            QuietChecks x = ticks(calls);
            int saved = Math.min(calls, 6);
            for (int left = saved - 1; left >= 0; left--) {
                DUE.same("undo() after " + calls, x.undo(), left);
                DUE.same("count(0)", x.count(0), calls - saved + left);
            }
            DUE.same("none is left", x.undo(), QuietChecks.NOT_POSSIBLE);
        }
    }

    @Says(words = "when a seventh one is saved, the oldest one is discarded.")
    static void seventhState() {
        QuietChecks x = ticks(6);
        x.ask(1);
        DUE.same("undo()", x.undo(), 5);
        for (int left = 4; left >= 0; left--) {
            DUE.same("undo()", x.undo(), left);
        }
        DUE.same("the tick 0 cannot come back", x.count(0), 1);
        DUE.same("undo()", x.undo(), QuietChecks.NOT_POSSIBLE);
        QuietChecks y = ticks(6);
        y.undo();
        y.quiet(1);
        for (int left = 5; left >= 0; left--) {
            DUE.same("the sixth is saved again", y.undo(), left);
        }
        DUE.same("the tick 0 comes back", y.count(0), 0);
    }

    @Says(words = "when a seventh one is saved, the oldest one is discarded.")
    static void seventhStateBetweenUndos() {
        QuietChecks x = new QuietChecks();
        for (int round = 0; round < 20; round++) {
            x.quiet(1);
            x.quiet(1);
            x.quiet(1);
            x.undo();
        }
        DUE.same("count(0)", x.count(0), 40);
        for (int left = 4; left >= 0; left--) {
            DUE.same("undo()", x.undo(), left);
            DUE.same("count(0)", x.count(0), 35 + left);
        }
        DUE.same("none is left", x.undo(), QuietChecks.NOT_POSSIBLE);
    }

    @Says(words = "The state is everything except the text and the saved states.")
    static void everythingComesBack() {
        for (int which = 0; which < CHANGES.size() - 1; which++) {
            for (int next = 0; next < CHANGES.size() - 1; next++) {
                QuietChecks x = Disks.planned();
                CHANGES.get(which).applyAsLong(x);
                boolean second = CHANGES.get(next).applyAsLong(x) >= 0;
                x.undo();
                if (second) {
                    x.undo();
                }
                Refusals.alike(DUE, "calls " + which + " and " + next, x, Disks.planned());
            }
        }
    }

    @Says(words = "The state is everything except the text and the saved states.")
    static void theTextStays() {
        QuietChecks x = new QuietChecks();
        x.ask(1);
        Due.text(x, "ask");
        x.ask(2);
        Due.text(x, " 3");
        x.undo();
        x.undo();
        DUE.same("clearText()", x.clearText(), 5);
        QuietChecks y = Disks.with("ask 4");
        y.carryOut();
        y.undo();
        DUE.same("a text that was carried out does not come back", y.clearText(), 0);
        QuietChecks z = Disks.with("ask 4");
        z.ask(1);
        z.clearText();
        z.undo();
        DUE.same("nor one that was cleared", z.syntaxError(), 0);
    }

    private static void codeOf(String call, long answer, int want) {
        DUE.same(call, answer, want);
    }

    @Says(words = "A call that returns NO_SUCH, BAD_VALUE, NOT_POSSIBLE, LIMIT or BAD_TEXT changes nothing.")
    static void refusedCallsChangeNothing() {
        Supplier<QuietChecks> full = () -> {
            QuietChecks x = Disks.full();
            x.clearText();
            Due.text(x, "ask 1;");
            return x;
        };
        QuietChecks x = full.get();
        codeOf("set", x.set(5, 0), QuietChecks.NO_SUCH);
        codeOf("set", x.set(0, 51), QuietChecks.BAD_VALUE);
        codeOf("setWay", x.setWay(3), QuietChecks.BAD_VALUE);
        codeOf("addSpares", x.addSpares(0), QuietChecks.BAD_VALUE);
        codeOf("addSpares", x.addSpares(1), QuietChecks.LIMIT);
        codeOf("spot", x.spot(8, 1), QuietChecks.NO_SUCH);
        codeOf("spot", x.spot(7, 0), QuietChecks.BAD_VALUE);
        codeOf("spot", x.spot(7, 1), QuietChecks.LIMIT);
        codeOf("ask", x.ask(8), QuietChecks.NO_SUCH);
        codeOf("ask", x.ask(0), QuietChecks.NOT_POSSIBLE);
        codeOf("ask", x.ask(7), QuietChecks.NOT_POSSIBLE);
        codeOf("ask", x.ask(6), QuietChecks.LIMIT);
        codeOf("unask", x.unask(8), QuietChecks.NO_SUCH);
        codeOf("unask", x.unask(6), QuietChecks.NOT_POSSIBLE);
        codeOf("read", x.read(8, 1), QuietChecks.NO_SUCH);
        codeOf("read", x.read(4, 201), QuietChecks.BAD_VALUE);
        codeOf("quiet", x.quiet(501), QuietChecks.BAD_VALUE);
        codeOf("count", x.count(13), QuietChecks.BAD_VALUE);
        codeOf("setting", x.setting(5), QuietChecks.NO_SUCH);
        codeOf("span", x.span(8, 0), QuietChecks.NO_SUCH);
        codeOf("span", x.span(7, 7), QuietChecks.BAD_VALUE);
        codeOf("tries", x.tries(7, 9), QuietChecks.NO_SUCH);
        codeOf("entry", x.entry(10, 0), QuietChecks.NO_SUCH);
        codeOf("entry", x.entry(9, 4), QuietChecks.BAD_VALUE);
        codeOf("lineAt", x.lineAt(9, 99), QuietChecks.NO_SUCH);
        codeOf("checkedIn", x.checkedIn(8), QuietChecks.NO_SUCH);
        codeOf("ifQuiet", x.ifQuiet(3001), QuietChecks.BAD_VALUE);
        codeOf("bestWay", x.bestWay(3001), QuietChecks.BAD_VALUE);
        codeOf("type", x.type(127), QuietChecks.BAD_VALUE);
        codeOf("carryOut", x.carryOut(), QuietChecks.BAD_TEXT);
        Refusals.alike(DUE, "all together", x, full.get());
        Supplier<QuietChecks> late = Disks::atTheLastTick;
        QuietChecks y = late.get();
        codeOf("read", y.read(0, 1), QuietChecks.LIMIT);
        codeOf("quiet", y.quiet(1), QuietChecks.LIMIT);
        Refusals.alike(DUE, "the last tick", y, late.get());
        QuietChecks z = new QuietChecks();
        codeOf("giveUp", z.giveUp(), QuietChecks.NOT_POSSIBLE);
        codeOf("undo", z.undo(), QuietChecks.NOT_POSSIBLE);
        Refusals.alike(DUE, "a new object", z, new QuietChecks());
    }

    @Says(words = "If several of them apply, the one that is named first in the @return line is returned.")
    static void namedFirst() {
        QuietChecks x = Disks.full();
        codeOf("set: NO_SUCH, BAD_VALUE", x.set(5, 5000), QuietChecks.NO_SUCH);
        codeOf("set: NO_SUCH, BAD_VALUE", x.set(-1, -1), QuietChecks.NO_SUCH);
        codeOf("addSpares: BAD_VALUE, LIMIT", x.addSpares(10), QuietChecks.BAD_VALUE);
        codeOf("spot: NO_SUCH, BAD_VALUE, LIMIT", x.spot(8, 0), QuietChecks.NO_SUCH);
        codeOf("spot: NO_SUCH, LIMIT", x.spot(-1, 1), QuietChecks.NO_SUCH);
        codeOf("spot: BAD_VALUE, LIMIT", x.spot(0, 10), QuietChecks.BAD_VALUE);
        codeOf("ask: NO_SUCH, LIMIT", x.ask(8), QuietChecks.NO_SUCH);
        codeOf("ask: NOT_POSSIBLE, LIMIT, in the list", x.ask(3), QuietChecks.NOT_POSSIBLE);
        codeOf("ask: NOT_POSSIBLE, LIMIT, has begun", x.ask(7), QuietChecks.NOT_POSSIBLE);
        codeOf("unask: NO_SUCH, NOT_POSSIBLE", x.unask(8), QuietChecks.NO_SUCH);
        codeOf("span: NO_SUCH, BAD_VALUE", x.span(8, 7), QuietChecks.NO_SUCH);
        codeOf("entry: NO_SUCH, BAD_VALUE", x.entry(10, 4), QuietChecks.NO_SUCH);
        codeOf("type: BAD_VALUE, LIMIT", x.type(31), QuietChecks.BAD_VALUE);
        codeOf("type: BAD_VALUE, LIMIT", x.type(127), QuietChecks.BAD_VALUE);
        QuietChecks y = Disks.atTheLastTick();
        codeOf("read: NO_SUCH, BAD_VALUE, LIMIT", y.read(8, 201), QuietChecks.NO_SUCH);
        codeOf("read: NO_SUCH, LIMIT", y.read(8, 1), QuietChecks.NO_SUCH);
        codeOf("read: BAD_VALUE, LIMIT", y.read(0, 201), QuietChecks.BAD_VALUE);
        codeOf("quiet: BAD_VALUE, LIMIT", y.quiet(501), QuietChecks.BAD_VALUE);
    }

    @Says(words = "NONE is not an error code.")
    static void noneIsNoErrorCode() {
        QuietChecks x = Disks.with("ask 1");
        DUE.same("a plan", x.syntaxError(), QuietChecks.NONE);
        DUE.same("is carried out", x.carryOut(), 1);
        QuietChecks y = new QuietChecks();
        DUE.same("no check has begun", y.count(5), QuietChecks.NONE);
        DUE.same("not in the list", y.span(7, 6), QuietChecks.NONE);
        DUE.same("none comes next", y.nextCheck(), QuietChecks.NONE);
    }

    @Says(words = "`NO_SUCH = -1`: There is no such span, setting, spot, entry or place.")
    static void noSuch() {
        DUE.same("NO_SUCH", QuietChecks.NO_SUCH, -1);
        QuietChecks x = new QuietChecks();
        x.spot(0, 9);
        x.read(0, 1);
        DUE.same("no such span", x.span(8, 0), -1);
        DUE.same("no such setting", x.setting(5), -1);
        DUE.same("no such spot", x.tries(0, 1), -1);
        DUE.same("no such entry", x.entry(1, 0), -1);
        DUE.same("no such place", x.lineAt(0, 8), -1);
    }

    @Says(words = "`BAD_VALUE = -2`: Another argument is out of its range.")
    static void badValue() {
        DUE.same("BAD_VALUE", QuietChecks.BAD_VALUE, -2);
        DUE.same("quiet(0)", new QuietChecks().quiet(0), -2);
    }

    @Says(words = "`NOT_POSSIBLE = -3`: The call is not possible in the present state.")
    static void notPossible() {
        DUE.same("NOT_POSSIBLE", QuietChecks.NOT_POSSIBLE, -3);
        DUE.same("giveUp()", new QuietChecks().giveUp(), -3);
    }

    @Says(words = "`LIMIT = -4`: A limit would be exceeded.")
    static void limit() {
        DUE.same("LIMIT", QuietChecks.LIMIT, -4);
        DUE.same("addSpares(1)", Disks.full().addSpares(1), -4);
    }

    @Says(words = "`BAD_TEXT = -5`: The text is not a plan.")
    static void badText() {
        DUE.same("BAD_TEXT", QuietChecks.BAD_TEXT, -5);
        DUE.same("carryOut()", new QuietChecks().carryOut(), -5);
    }

    @Says(words = "`NONE = -6`: There is no such result.")
    static void none() {
        DUE.same("NONE", QuietChecks.NONE, -6);
        DUE.same("nextCheck()", new QuietChecks().nextCheck(), -6);
    }

    @Says(promise = 27, words = "Restores the state that was saved last, and discards it from the saved states.")
    static void undoRestores() {
        QuietChecks x = ticks(3);
        x.undo();
        DUE.same("the last one", x.count(0), 2);
        x.undo();
        DUE.same("the one before it", x.count(0), 1);
        x.quiet(10);
        DUE.same("count(0)", x.count(0), 11);
        x.undo();
        DUE.same("the new one", x.count(0), 1);
        x.undo();
        DUE.same("the first one", x.count(0), 0);
    }

    @Says(promise = 27, words = "Returns the number of saved states that are left;")
    static void undoAnswers() {
        QuietChecks x = ticks(6);
        for (int left = 5; left >= 0; left--) {
            DUE.same("undo()", x.undo(), left);
        }
        x.quiet(1);
        DUE.same("undo()", x.undo(), 0);
    }

    @Says(promise = 27, words = "NOT_POSSIBLE if no state is saved.")
    static void undoNotPossible() {
        Refusals.refused(DUE, "a new object", QuietChecks.NOT_POSSIBLE, QuietChecks::new, QuietChecks::undo);
        Refusals.refused(DUE, "only a text", QuietChecks.NOT_POSSIBLE, () -> Disks.with("ask 1"), QuietChecks::undo);
        QuietChecks x = ticks(7);
        for (int i = 0; i < 6; i++) {
            x.undo();
        }
        long before = x.digest();
        DUE.same("all are used up", x.undo(), QuietChecks.NOT_POSSIBLE);
        DUE.same("all are used up still", x.undo(), QuietChecks.NOT_POSSIBLE);
        DUE.same("nothing has changed", x.digest(), before);
        DUE.same("the oldest one", x.count(0), 1);
        x.quiet(1);
        DUE.same("the next one can be undone", x.undo(), 0);
    }

    /** Adds values to a hash one by one, as the document says. */
    private static final class Hash {
        private long hash = 448;

        void add(long value) {
            hash = 31 * hash + value;
        }
    }

    /** What the digest is to be, by calls that are few enough for any object of these tests. */
    private static long hash(QuietChecks x) {
        Hash hash = new Hash();
        for (int what = 0; what <= 12; what++) {
            hash.add(x.count(what));
        }
        for (int setting = 0; setting <= 4; setting++) {
            hash.add(x.setting(setting));
        }
        for (int span = 0; span <= 7; span++) {
            for (int what = 0; what <= 6; what++) {
                hash.add(x.span(span, what));
            }
            for (int index = 0; x.tries(span, index) != QuietChecks.NO_SUCH; index++) {
                hash.add(x.tries(span, index));
            }
        }
        int entries = x.entries();
        hash.add(entries);
        for (int index = 0; index < entries; index++) {
            int[] entry = {x.entry(index, 0), x.entry(index, 1), x.entry(index, 2)};
            for (int value : entry) {
                hash.add(value);
            }
            String line = entry[0] + " " + WORDS.get(entry[1] - 1) + " " + entry[2];
            line.chars().forEach(hash::add);
        }
        hash.add(x.overdue());
        hash.add(x.nextCheck());
        return hash.hash;
    }

    private static QuietChecks slowReads(int reads) {
        QuietChecks x = new QuietChecks();
        x.spot(7, 9);
        for (int i = 0; i < reads; i++) {
            x.read(7, 1);
        }
        return x;
    }

    @Says(promise = 28, words = "Computes a hash of the state.")
    static void digestOfAny() {
        for (int state = 0; state < 3; state++) {
            Supplier<QuietChecks> maker = Disks.ANY.get(state);
            DUE.same("state " + state, maker.get().digest(), hash(maker.get()));
        }
        DUE.same("the last tick", Disks.atTheLastTick().digest(), hash(Disks.atTheLastTick()));
    }

    @Says(promise = 28, words = "The hash starts at 448.")
    static void digestOfANewObject() {
        Hash hash = new Hash();
        int[] counts = {0, 0, 0, 6, 0, -6, 0, 0, 0, 0, 0, 0, 0, 5, 10, 3, 5, 400};
        for (int value : counts) {
            hash.add(value);
        }
        for (int span = 0; span < 8; span++) {
            for (int value : new int[] {0, 0, 0, 0, 0, 10, -6}) {
                hash.add(value);
            }
        }
        for (int value : new int[] {0, 0, -6}) {
            hash.add(value);
        }
        DUE.same("digest()", new QuietChecks().digest(), hash.hash);
    }

    @Says(promise = 28, words = "in order, the hash becomes 31 * hash + v, in long arithmetic with overflow.")
    static void digestOverflows() {
        BigInteger hash = BigInteger.valueOf(448);
        int[] values = {0, 0, 0, 6, 0, -6, 0, 0, 0, 0, 0, 0, 0, 5, 10, 3, 5, 400, 0, 0, 0, 0, 0, 10, -6, 0, 0, 0, 0, 0, 10, -6,
            0, 0, 0, 0, 0, 10, -6, 0, 0, 0, 0, 0, 10, -6, 0, 0, 0, 0, 0, 10, -6, 0, 0, 0, 0, 0, 10, -6, 0, 0, 0, 0, 0, 10, -6,
            0, 0, 0, 0, 0, 10, -6, 0, 0, -6};
        for (int value : values) {
            hash = hash.multiply(BigInteger.valueOf(31)).add(BigInteger.valueOf(value));
        }
        DUE.holds("the hash has overflowed", hash.bitLength() > 64);
        DUE.same("its lowest 64 bits", new QuietChecks().digest(), hash.longValue());
    }

    @Says(promise = 28, words = "The list is: count(0) to count(12);")
    static void digestOfCounts() {
        QuietChecks x = Disks.quick();
        for (int i = 0; i < 3; i++) {
            x.spot(2, 9);
        }
        x.setWay(2);
        x.ask(4);
        x.read(2, 3);
        x.quiet(2);
        x.read(0, 1);
        x.quiet(20);
        x.set(0, 3);
        x.spot(5, 2);
        x.ask(5);
        x.ask(6);
        x.quiet(5);
        // each of the 13 numbers is above 0
        for (int what = 0; what <= 12; what++) {
            DUE.holds("count(" + what + ")", x.count(what) > 0);
        }
        DUE.same("digest()", x.digest(), hash(x));
    }

    @Says(promise = 28, words = "setting(0) to setting(4);")
    static void digestOfSettings() {
        long first = new QuietChecks().digest();
        for (int setting = 0; setting < 5; setting++) {
            QuietChecks x = new QuietChecks();
            x.set(setting, x.setting(setting) + 1);
            DUE.same("setting " + setting, x.digest(), hash(x));
            DUE.holds("is in the hash", x.digest() != first);
        }
    }

    @Says(promise = 28, words = "entries();")
    static void digestOfTheNumberOfEntries() {
        for (int entries : new int[] {0, 1, 9, 10, 11}) {
            QuietChecks x = slowReads(entries);
            DUE.same("entries()", x.entries(), Math.min(entries, 10));
            DUE.same("digest() of " + entries, x.digest(), hash(x));
        }
    }

    @Says(promise = 28, words = "overdue();")
    static void digestOfOverdue() {
        QuietChecks x = new QuietChecks();
        Disks.pass(x, 0, 400);
        DUE.same("none is overdue", x.digest(), hash(x));
        x.read(0, 1);
        DUE.same("all are", x.digest(), hash(x));
    }

    @Says(promise = 28, words = "nextCheck().")
    static void digestOfNextCheck() {
        QuietChecks x = new QuietChecks();
        Disks.pass(x, 0, 199);
        DUE.same("none comes next", x.digest(), hash(x));
        x.read(0, 1);
        x.spot(6, 1);
        for (int way = 0; way < 3; way++) {
            x.setWay(way);
            DUE.same("by way " + way, x.digest(), hash(x));
        }
        QuietChecks y = new QuietChecks();
        y.ask(7);
        DUE.same("7 comes next", y.digest(), hash(y));
    }

    @Says(promise = 28, words = "for each span its numbers 0 to 6, and the tries of its spots in their order;")
    static void digestOfSpots() {
        QuietChecks x = new QuietChecks();
        x.spot(7, 3);
        x.spot(7, 8);
        DUE.same("two spots", x.digest(), hash(x));
        QuietChecks y = new QuietChecks();
        y.spot(7, 8);
        y.spot(7, 3);
        DUE.same("in the other order", y.digest(), hash(y));
        DUE.holds("which is another one", x.digest() != y.digest());
        for (int i = 0; i < 18; i++) {
            x.spot(0, 9);
        }
        DUE.same("twenty spots", x.digest(), hash(x));
    }

    @Says(promise = 28, words = "for each entry its tick, kind and span, and all characters of its line;")
    static void digestOfEntries() {
        for (int entries = 0; entries <= 12; entries++) {
            QuietChecks x = slowReads(entries);
            DUE.same(entries + " entries", x.digest(), hash(x));
        }
        QuietChecks y = Disks.late(99990);
        y.spot(0, 9);
        y.read(0, 9);
        DUE.same("lines with five digits", y.digest(), hash(y));
    }

    @Says(promise = 28, words = "Returns the hash.")
    static void digestChangesNothing() {
        QuietChecks x = Disks.full();
        long first = x.digest();
        DUE.same("digest() again", x.digest(), first);
        DUE.same("the text is as before", x.clearText(), 80);
        DUE.same("and is not in it", x.digest(), first);
        DUE.same("no state is saved", x.undo(), 5);
        QuietChecks y = ticks(3);
        y.undo();
        DUE.same("the saved states are not in it", y.digest(), ticks(2).digest());
    }
}
