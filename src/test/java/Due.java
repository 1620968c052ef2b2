/** Counts the answers of a test that are as due, and prints those that are not. */
final class Due {
    private final String test;
    private int passed = 0;
    private int failed = 0;
    private String about = "";

    Due(String test) {
        this.test = test;
    }

    void same(String call, long got, long want) {
        if (got == want) {
            passed++;
        } else {
            failed++;
            System.out.println(test + ": " + about + call + " answered " + got + ", due is " + want);
        }
    }

    /** What the comparisons from now on are about, for the lines of those that fail. */
    void about(String words) {
        about = words + ": ";
    }

    int compared() {
        return passed + failed;
    }

    void holds(String what, boolean it) {
        same(what, it ? 1 : 0, 1);
    }

    /** Types a text into the object, character by character. */
    static void text(QuietChecks x, String text) {
        for (int i = 0; i < text.length(); i++) {
            x.type(text.charAt(i));
        }
    }

    /** The line of an entry, read by lineAt, as long as entry says. */
    static String line(QuietChecks x, int index) {
        StringBuilder line = new StringBuilder();
        int length = x.entry(index, 3);
        for (int place = 0; place < length; place++) {
            line.append((char) x.lineAt(index, place));
        }
        return line.toString();
    }

    /** Expects the log to have exactly these lines, from the oldest one on. */
    void log(String when, QuietChecks x, String... lines) {
        same(when + ": entries()", x.entries(), lines.length);
        for (int index = 0; index < lines.length; index++) {
            String got = line(x, index);
            holds(when + ": entry " + index + " is \"" + lines[index] + "\", not \"" + got + "\"",
                    got.equals(lines[index]));
        }
    }

    /** Expects the spots of a span to have exactly these tries, in this order. */
    void spots(String when, QuietChecks x, int span, int... tries) {
        same(when + ": span(" + span + ", 2)", x.span(span, 2), tries.length);
        for (int index = 0; index < tries.length; index++) {
            same(when + ": tries(" + span + ", " + index + ")", x.tries(span, index), tries[index]);
        }
        same(when + ": tries(" + span + ", " + tries.length + ")", x.tries(span, tries.length), QuietChecks.NO_SUCH);
    }

    void end() {
        System.out.println(test + ": " + passed + " passed, " + failed + " failed");
        if (failed != 0 || passed == 0) {
            System.exit(1);
        }
    }
}
