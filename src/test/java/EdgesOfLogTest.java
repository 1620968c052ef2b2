import java.io.IOException;

/** The edges of "Terms" on the log, and of promises 15 to 17: entries, entry, lineAt. */
public final class EdgesOfLogTest {
    private static final Due DUE = new Due("EdgesOfLogTest");

    public static void main(String[] args) throws IOException, ReflectiveOperationException {
        Edges.run(EdgesOfLogTest.class, DUE);
    }

    /** So many entries of the kind 6, at the ticks from 1 on, all of span 7. */
    private static QuietChecks slowReads(int entries) {
        QuietChecks x = new QuietChecks();
        x.spot(7, 9);
        for (int i = 0; i < entries; i++) {
            x.read(7, 1);
        }
        return x;
    }

    @Says(words = "The log has the latest 10 entries;")
    static void latestTen() {
        for (int entries : new int[] {0, 1, 9, 10, 11, 12, 19, 20, 21, 99}) {
            QuietChecks x = slowReads(entries);
            int kept = Math.min(entries, 10);
            DUE.same("entries() of " + entries, x.entries(), kept);
            for (int index = 0; index < kept; index++) {
                DUE.same("entry(" + index + ", 0) of " + entries, x.entry(index, 0), entries - kept + index + 1);
            }
            DUE.same("no more than " + kept, x.entry(kept, 0), QuietChecks.NO_SUCH);
        }
    }

    @Says(words = "The log has the latest 10 entries;")
    static void latestTenOfOneTick() {
        QuietChecks x = Disks.quick();
        x.set(3, 2);
        for (int i = 0; i < 20; i++) {
            x.spot(4, 2);
        }
        x.ask(4);
        DUE.same("its check", x.quiet(41), 1);
        // begins, ends, 6 replaced, 14 stay
        DUE.same("entries()", x.entries(), 10);
        for (int index = 0; index < 10; index++) {
            DUE.same("entry(" + index + ", 1)", x.entry(index, 1), 5);
            DUE.same("entry(" + index + ", 0)", x.entry(index, 0), 41);
        }
    }

    @Says(words = "each has a tick, a kind and a span.")
    static void eachHas() {
        QuietChecks x = slowReads(3);
        DUE.same("its tick", x.entry(2, 0), 3);
        DUE.same("its kind", x.entry(2, 1), 6);
        DUE.same("its span", x.entry(2, 2), 7);
    }

    /** An object with entries of all kinds: span 2 has one more weak spot than there are spares. */
    private static QuietChecks allKinds() {
        QuietChecks x = Disks.quick();
        x.set(3, 2);
        for (int i = 0; i < 5; i++) {
            x.spot(1, 9);
        }
        x.ask(1);
        x.quiet(11);
        x.spot(2, 1);
        x.spot(2, 9);
        x.spot(2, 1);
        x.spot(2, 2);
        x.ask(2);
        x.quiet(2);
        x.read(2, 20);
        x.quiet(7);
        return x;
    }

    @Says(words = "The kinds are: 1 a check begins, 2 a check pauses, 3 a check ends, 4 a spot is replaced, 5 a spot stays for want of a spare, 6 a read is slow.")
    static void kinds() {
        QuietChecks x = allKinds();
        int[] kinds = {4, 4, 4, 4, 1, 2, 6, 3, 4, 5};
        for (int index = 0; index < kinds.length; index++) {
            DUE.same("entry(" + index + ", 1)", x.entry(index, 1), kinds[index]);
            DUE.same("entry(" + index + ", 2)", x.entry(index, 2), index < 4 ? 1 : 2);
        }
    }

    @Says(words = "Kinds 4 and 5 come behind the entry 3, in the order of the spots;")
    static void behindTheEnd() {
        QuietChecks x = allKinds();
        DUE.same("first the end", x.entry(7, 1), 3);
        DUE.same("then the first weak spot, which has the last spare", x.entry(8, 1), 4);
        DUE.same("then the second one", x.entry(9, 1), 5);
        DUE.same("all at the same tick", x.entry(9, 0), x.entry(7, 0));
        DUE.spots("of four spots", x, 2, 2, 2, 2);
    }

    @Says(words = "kind 6 comes behind kind 2.")
    static void slowBehindPauses() {
        QuietChecks x = Disks.eager();
        x.spot(2, 9);
        x.ask(4);
        x.quiet(3);
        x.read(2, 6);
        DUE.log("pause and slow read", x, "1 begins 4", "9 pauses 4", "9 slow 2");
    }

    @Says(words = "The tick is the current tick as it is then (for the host: behind its ticks).")
    static void tickOfAnEntry() {
        QuietChecks x = Disks.eager();
        x.spot(2, 5);
        x.read(2, 200);
        DUE.same("slow", x.entry(0, 0), 200);
        x.quiet(1);
        DUE.same("begins", x.entry(1, 0), 201);
        x.read(2, 150);
        DUE.same("pauses", x.entry(2, 0), 351);
        DUE.same("slow", x.entry(3, 0), 351);
        DUE.same("all ticks of the check", x.quiet(25), 1);
        DUE.same("ends", x.entry(4, 0), 376);
        DUE.same("replaced", x.entry(5, 0), 376);
        DUE.same("no more", x.entries(), 6);
    }

    @Says(words = "The line of an entry is a text: the tick, a blank, the word of the kind (\"begins\", \"pauses\", \"ends\", \"replaced\", \"stays\" or \"slow\"), a blank, and the number of the span.")
    static void lines() {
        DUE.log("all words", allKinds(), "11 replaced 1", "11 replaced 1", "11 replaced 1", "11 replaced 1", "12 begins 2",
                "33 pauses 2", "33 slow 2", "40 ends 2", "40 replaced 2", "40 stays 2");
        QuietChecks x = slowReads(1);
        DUE.log("one digit", x, "1 slow 7");
        x.read(7, 8);
        x.read(7, 1);
        x.read(7, 89);
        x.read(7, 1);
        DUE.log("two and three digits", x, "1 slow 7", "9 slow 7", "10 slow 7", "99 slow 7", "100 slow 7");
        QuietChecks y = Disks.late(99998);
        y.spot(0, 9);
        y.read(0, 1);
        DUE.holds("five digits: " + Due.line(y, 9), Due.line(y, 9).equals("99999 slow 0"));
    }

    @Says(promise = 15, words = "Returns the number of entries in the log, at most 10.")
    static void entries() {
        DUE.same("none", slowReads(0).entries(), 0);
        DUE.same("one", slowReads(1).entries(), 1);
        DUE.same("nine", slowReads(9).entries(), 9);
        DUE.same("ten", slowReads(10).entries(), 10);
        DUE.same("no more", slowReads(11).entries(), 10);
        DUE.same("no more", slowReads(20).entries(), 10);
        QuietChecks x = slowReads(11);
        x.undo();
        DUE.same("ten still", x.entries(), 10);
        x.undo();
        DUE.same("nine by undo", x.entries(), 9);
    }

    @Says(promise = 16, words = "Returns something about an entry of the log.")
    static void entryAnswers() {
        QuietChecks x = Disks.eager();
        x.ask(5);
        x.quiet(2);
        int[] wants = {1, 1, 5, "1 begins 5".length()};
        for (int what = 0; what < 4; what++) {
            DUE.same("entry(0, " + what + ")", x.entry(0, what), wants[what]);
        }
    }

    @Says(promise = 16, words = "`index`: 0 for the oldest entry")
    static void entryIndex() {
        QuietChecks x = slowReads(12);
        DUE.same("the oldest one", x.entry(0, 0), 3);
        DUE.same("the latest one", x.entry(9, 0), 12);
        DUE.same("one below", x.entry(-1, 0), QuietChecks.NO_SUCH);
        DUE.same("one above", x.entry(10, 0), QuietChecks.NO_SUCH);
    }

    @Says(promise = 16, words = "`what`: 0 for its tick, 1 for its kind, 2 for its span, 3 for the length of its line")
    static void entryWhat() {
        QuietChecks x = Disks.late(99990);
        x.spot(6, 9);
        x.read(6, 9);
        DUE.same("one below", x.entry(9, -1), QuietChecks.BAD_VALUE);
        DUE.same("tick", x.entry(9, 0), 99999);
        DUE.same("kind", x.entry(9, 1), 6);
        DUE.same("span", x.entry(9, 2), 6);
        DUE.same("length", x.entry(9, 3), "99999 slow 6".length());
        DUE.same("one above", x.entry(9, 4), QuietChecks.BAD_VALUE);
    }

    @Says(promise = 16, words = "Returns the number;")
    static void entryLengths() {
        QuietChecks x = allKinds();
        String[] words = {"replaced", "replaced", "replaced", "replaced", "begins", "pauses", "slow", "ends", "replaced",
            "stays"};
        for (int index = 0; index < words.length; index++) {
            DUE.same("the length with " + words[index], x.entry(index, 3), words[index].length() + 5);
        }
    }

    @Says(promise = 16, words = "NO_SUCH if there is no such entry;")
    static void entryNoSuch() {
        DUE.same("none in an empty log", new QuietChecks().entry(0, 0), QuietChecks.NO_SUCH);
        DUE.same("none behind the latest", slowReads(4).entry(4, 0), QuietChecks.NO_SUCH);
        for (int index : Disks.FAR) {
            DUE.same("entry(" + index + ", 0)", slowReads(20).entry(index, 0), QuietChecks.NO_SUCH);
        }
        DUE.same("it is named first", slowReads(4).entry(4, 4), QuietChecks.NO_SUCH);
        DUE.same("it is named first", slowReads(4).entry(-1, -1), QuietChecks.NO_SUCH);
        DUE.same("it is named first", new QuietChecks().entry(0, 4), QuietChecks.NO_SUCH);
        Refusals.everywhere(DUE, "entry(10, 0)", QuietChecks.NO_SUCH, x -> x.entry(10, 0));
    }

    @Says(promise = 16, words = "BAD_VALUE if what is out of range.")
    static void entryBadValue() {
        QuietChecks x = slowReads(20);
        for (int index : new int[] {0, 9}) {
            DUE.same("entry(" + index + ", -1)", x.entry(index, -1), QuietChecks.BAD_VALUE);
            DUE.same("entry(" + index + ", 4)", x.entry(index, 4), QuietChecks.BAD_VALUE);
            for (int what : Disks.FAR) {
                DUE.same("entry(" + index + ", " + what + ")", x.entry(index, what), QuietChecks.BAD_VALUE);
            }
        }
        Refusals.refused(DUE, "entry(0, 4)", QuietChecks.BAD_VALUE, Disks::full, y -> y.entry(0, 4));
    }

    @Says(promise = 17, words = "Returns a character of the line of an entry.")
    static void lineAt() {
        QuietChecks x = Disks.eager();
        x.ask(5);
        x.quiet(2);
        String line = "1 begins 5";
        for (int place = 0; place < line.length(); place++) {
            DUE.same("lineAt(0, " + place + ")", x.lineAt(0, place), line.charAt(place));
        }
        DUE.same("behind it", x.lineAt(0, line.length()), QuietChecks.NO_SUCH);
    }

    @Says(promise = 17, words = "`index`: 0 for the oldest entry")
    static void lineAtIndex() {
        QuietChecks x = slowReads(15);
        DUE.same("of the oldest one, \"6 slow 7\"", x.lineAt(0, 0), '6');
        DUE.same("of the latest one, \"15 slow 7\"", x.lineAt(9, 1), '5');
        DUE.same("one below", x.lineAt(-1, 0), QuietChecks.NO_SUCH);
        DUE.same("one above", x.lineAt(10, 0), QuietChecks.NO_SUCH);
    }

    @Says(promise = 17, words = "`place`: 0 for the first character")
    static void lineAtPlace() {
        QuietChecks x = slowReads(15);
        DUE.same("the first one of \"6 slow 7\"", x.lineAt(0, 0), '6');
        DUE.same("the last one", x.lineAt(0, 7), '7');
        DUE.same("one below", x.lineAt(0, -1), QuietChecks.NO_SUCH);
        DUE.same("one above", x.lineAt(0, 8), QuietChecks.NO_SUCH);
        DUE.same("in a longer line that is none", x.lineAt(9, 8), '7');
        DUE.same("one above there", x.lineAt(9, 9), QuietChecks.NO_SUCH);
    }

    @Says(promise = 17, words = "Returns the character code;")
    static void lineAtCode() {
        QuietChecks x = slowReads(1);
        int[] codes = {49, 32, 115, 108, 111, 119, 32, 55};
        for (int place = 0; place < codes.length; place++) {
            DUE.same("lineAt(0, " + place + ")", x.lineAt(0, place), codes[place]);
        }
    }

    @Says(promise = 17, words = "NO_SUCH if there is no such entry or place.")
    static void lineAtNoSuch() {
        DUE.same("none in an empty log", new QuietChecks().lineAt(0, 0), QuietChecks.NO_SUCH);
        DUE.same("none behind the latest", slowReads(4).lineAt(4, 0), QuietChecks.NO_SUCH);
        QuietChecks x = slowReads(20);
        for (int far : Disks.FAR) {
            DUE.same("lineAt(" + far + ", 0)", x.lineAt(far, 0), QuietChecks.NO_SUCH);
            DUE.same("lineAt(0, " + far + ")", x.lineAt(0, far), QuietChecks.NO_SUCH);
        }
        Refusals.everywhere(DUE, "lineAt(10, 0)", QuietChecks.NO_SUCH, y -> y.lineAt(10, 0));
        Refusals.everywhere(DUE, "lineAt(0, 16)", QuietChecks.NO_SUCH, y -> y.lineAt(0, 16));
    }
}
