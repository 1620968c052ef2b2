import java.util.Arrays;

/** All promises: long runs of calls that a fixed sequence of numbers makes up, each answered as the model answers it. */
public final class ModelTest {
    private static final Due DUE = new Due("ModelTest");
    private static final int RUNS = 700;
    private static final int CALLS = 512;
    private static final String[] COMMANDS = {
        "read 3:12", "read 0:200", "read 5:1", "read 7:201", "read 2:000", "quiet 1", "quiet 40", "quiet 007",
        "quiet 500", "quiet 501", "ask 0", "ask 4", "ask 7", "spot 0:9", "spot 5:4", "spot 3:1", "way oldest",
        "way worst", "way row",
    };

    private final QuietChecks x = new QuietChecks();
    private final Model model = new Model();
    private final int run;
    private final int style;
    private int calls = 0;
    private long seed;

    private ModelTest(int run) {
        this.run = run;
        this.style = run % 7;
        this.seed = 88172645463325252L + 7919L * run;
    }

    public static void main(String[] args) {
        for (int run = 0; run < RUNS; run++) {
            new ModelTest(run).go();
        }
        DUE.end();
    }

    private int below(int bound) {
        seed ^= seed << 13;
        seed ^= seed >>> 7;
        seed ^= seed << 17;
        return (int) Math.floorMod(seed >>> 11, (long) bound);
    }

    private void call(int op, int a, int b) {
        if (calls < CALLS) {
            calls++;
            int[] call = {op, a, b};
            long want = model.answer(call);
            DUE.same("run " + run + ", call " + calls + ": " + Calls.NAMES[op] + Arrays.toString(call),
                    Calls.answer(x, call), want);
        }
    }

    private void go() {
        if (style == 5) {
            for (int i = 0; i < 199; i++) {
                call(Calls.QUIET, 500, 0);
            }
        }
        if (style != 0) {
            begin();
        }
        while (calls < CALLS) {
            step();
        }
    }

    /** Settings and spots that make much happen. */
    private void begin() {
        call(0, 0, below(4));
        call(0, 1, 1 + below(style == 1 ? 4 : 40));
        call(0, 2, 1 + below(9));
        call(0, 3, 2 + below(8));
        call(0, 4, 50 + below(style == 2 ? 2000 : 200));
        call(1, below(3), 0);
        int spots = below(21);
        int spans = 1 + below(8);
        for (int i = 0; i < spots; i++) {
            call(3, below(spans), 1 + below(9));
        }
    }

    private void step() {
        int kind = below(100);
        if (kind < 22) {
            call(Calls.QUIET, 1 + below(style == 3 ? 500 : 60), 0);
        } else if (kind < 32) {
            call(Calls.READ, below(8), 1 + below(style == 4 ? 200 : 12));
        } else if (kind < 40) {
            call(4 + below(2), below(8), 0);
        } else if (kind < 44) {
            call(3, below(8), 1 + below(9));
        } else if (kind < 46) {
            call(8, 0, 0);
        } else if (kind < 50) {
            call(25, 0, 0);
        } else if (kind < 52) {
            changeSetting();
        } else if (kind < 55) {
            call(1 + below(2), below(11) - 1, 0);
        } else if (kind < 58) {
            forecast();
        } else if (kind < 62 && style != 6 || kind < 75 && style == 6) {
            plan();
        } else if (kind < 80) {
            call(9 + below(9), below(16) - 2, below(20) - 2);
        } else if (kind < 88) {
            call(below(18), near(), near());
        } else {
            call(Calls.DIGEST, 0, 0);
        }
    }

    private void changeSetting() {
        int[] bounds = {51, 40, 9, 8, 300};
        int[] lowest = {0, 1, 1, 2, 50};
        int which = below(5);
        call(0, which, lowest[which] + below(which == 0 ? 6 : bounds[which]));
    }

    private void forecast() {
        call(Calls.CHECKED_IN, below(9), 0);
        call(19 + below(2), below(4) == 0 ? 2990 + below(15) : below(400) - 5, 0);
    }

    private int near() {
        int[] some = {-1, 0, 1, 2, 3, 4, 5, 7, 8, 9, 10, 50, 51, 200, 201, 500, 501, 2000, 2001, 99999, Integer.MIN_VALUE,
            Integer.MAX_VALUE};
        return some[below(some.length)];
    }

    /** A plan, sometimes with a character too few, too many or another one, is typed in and mostly carried out. */
    private void plan() {
        StringBuilder text = new StringBuilder(COMMANDS[below(COMMANDS.length)]);
        int more = below(6);
        for (int i = 0; i < more; i++) {
            text.append(';').append(COMMANDS[below(COMMANDS.length)]);
        }
        int place = below(text.length());
        switch (below(style == 6 ? 5 : 9)) {
            case 0 -> text.deleteCharAt(place);
            case 1 -> text.insert(place, (char) (32 + below(95)));
            case 2 -> text.setCharAt(place, (char) (32 + below(95)));
            case 3 -> text.setLength(place);
            default -> { }
        }
        for (int i = 0; i < text.length(); i++) {
            call(Calls.TYPE, text.charAt(i), 0);
            if (below(5) == 0) {
                call(23, 0, 0);
            }
        }
        call(23, 0, 0);
        call(below(4) == 0 ? 22 : Calls.CARRY_OUT, 0, 0);
        call(22, 0, 0);
        call(Calls.DIGEST, 0, 0);
    }
}
