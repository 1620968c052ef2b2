import java.util.Arrays;

/** No call throws, whatever its arguments are, and whatever has been called before; a refused call changes nothing. */
public final class AnyArgumentsTest {
    private static final Due DUE = new Due("AnyArgumentsTest");
    private static final int[] SOME = {
        Integer.MIN_VALUE, Integer.MIN_VALUE + 1, -100000, -7, -6, -1, 0, 1, 3, 5, 7, 8, 9, 10, 11, 12, 13, 16, 20, 31, 32,
        50, 80, 126, 127, 200, 500, 2000, 3000, 99999, 100000, Integer.MAX_VALUE - 1, Integer.MAX_VALUE,
    };

    public static void main(String[] args) {
        for (int op = 0; op < Calls.NAMES.length; op++) {
            everyArgument(op);
        }
        manyCalls();
        DUE.end();
    }

    private static QuietChecks some(int state) {
        QuietChecks x = state == 2 ? Disks.late(99900) : new QuietChecks();
        if (state > 0) {
            x.set(0, 0);
            x.set(2, 9);
            for (int i = 0; i < 20; i++) {
                x.spot(i * i % 8, 1 + i % 9);
            }
            for (int i = 0; i < 7; i++) {
                x.ask(i);
            }
            x.quiet(3);
            x.read(1, 1);
            Due.text(x, "quiet 90;read 1:1;spot 1:1;ask 1");
        }
        return x;
    }

    private static void everyArgument(int op) {
        for (int state = 0; state < 3; state++) {
            for (int a : SOME) {
                QuietChecks x = some(state);
                int used = 0;
                for (int b : SOME) {
                    if (used++ > 12) {
                        x = some(state);
                        used = 0;
                    }
                    call(x, new int[] {op, a, b});
                }
            }
        }
    }

    private static void call(QuietChecks x, int[] call) {
        long before = x.digest();
        long answer = Calls.answer(x, call);
        if (call[0] != Calls.DIGEST) {
            String what = Calls.NAMES[call[0]] + Arrays.toString(call) + " answers " + answer;
            DUE.holds(what, answer >= QuietChecks.NONE);
            DUE.holds(what + " and changes nothing", answer >= 0 || x.digest() == before);
        }
    }

    /** Far more calls than an object is used for. */
    private static void manyCalls() {
        QuietChecks x = new QuietChecks();
        long seed = 12345;
        for (int i = 0; i < 20000; i++) {
            seed = seed * 6364136223846793005L + 1442695040888963407L;
            int op = (int) (seed >>> 33) % Calls.NAMES.length;
            int a = SOME[(int) (seed >>> 40) % SOME.length];
            int b = SOME[(int) (seed >>> 50) % SOME.length];
            boolean dear = op >= Calls.CHECKED_IN && op <= Calls.BEST_WAY && i % 16 != 0;
            if (!dear) {
                Calls.answer(x, new int[] {op, a, b});
            }
        }
        DUE.holds("the tick has its bound", x.count(0) <= 99999);
    }
}
