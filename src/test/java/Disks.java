import java.util.List;
import java.util.function.Supplier;

/** Ways to make the objects that tests begin with. */
final class Disks {
    /** Too little, too much and far off, for any argument that has no other bounds of its own. */
    static final int[] FAR = {Integer.MIN_VALUE, Integer.MIN_VALUE + 1, -1000000, 1000000, Integer.MAX_VALUE};

    /** States in which a wrong argument is to be refused alike. */
    static final List<Supplier<QuietChecks>> ANY = List.of(Disks::fresh, Disks::busy, Disks::full, Disks::atTheLastTick);

    /** A plan of 80 characters. */
    static final String LONGEST_PLAN = "quiet 100;".repeat(7) + "way oldest";

    private Disks() {
    }

    static QuietChecks fresh() {
        return new QuietChecks();
    }

    /** Its checks work at once. */
    static QuietChecks eager() {
        QuietChecks x = new QuietChecks();
        x.set(0, 0);
        return x;
    }

    /** Its checks work at once, and take one tick for a span without spots, and one more for each try. */
    static QuietChecks quick() {
        QuietChecks x = eager();
        x.set(1, 1);
        x.set(2, 1);
        return x;
    }

    static QuietChecks with(String text) {
        QuietChecks x = new QuietChecks();
        Due.text(x, text);
        return x;
    }

    /** An object at the given tick, of which 500 come at a time, with the checks that come of it. */
    static QuietChecks late(int tick) {
        QuietChecks x = new QuietChecks();
        for (int left = tick; left > 0; left -= 500) {
            x.quiet(Math.min(left, 500));
        }
        return x;
    }

    static QuietChecks atTheLastTick() {
        return late(99999);
    }

    /** Lets the host read a span without spots for so many ticks in all. */
    static void pass(QuietChecks x, int span, int ticks) {
        for (int left = ticks; left > 0; left -= 200) {
            x.read(span, Math.min(left, 200));
        }
    }

    /** In the midst of things: a check has begun, two spans wait, six states are saved, a plan is typed. */
    static QuietChecks busy() {
        QuietChecks x = new QuietChecks();
        x.set(0, 1);
        x.set(4, 60);
        x.setWay(2);
        x.spot(2, 3);
        x.spot(5, 9);
        x.spot(5, 4);
        x.read(5, 30);
        x.quiet(120);
        x.ask(4);
        x.ask(1);
        Due.text(x, "ask 0;quiet 3");
        return x;
    }

    /** Much like busy, but with three saved states, so that there is room for more of them. */
    static QuietChecks planned() {
        QuietChecks x = new QuietChecks();
        x.set(0, 1);
        x.set(4, 60);
        Due.text(x, "way row;spot 2:3;spot 5:9;spot 5:4;read 5:30;quiet 120;ask 4;ask 1");
        x.carryOut();
        Due.text(x, "ask 0;quiet 3");
        return x;
    }

    /** All that has a limit is full: spots, spares, the list, the log, the saved states, the text. Check 7 has begun. */
    static QuietChecks full() {
        QuietChecks x = eager();
        x.set(1, 40);
        x.addSpares(8);
        for (int i = 0; i < 4; i++) {
            x.addSpares(9);
        }
        for (int i = 0; i < 20; i++) {
            x.spot(i % 8, 1 + i % 9);
        }
        x.ask(7);
        x.quiet(30);
        for (int span = 0; span < 6; span++) {
            x.ask(span);
        }
        for (int i = 0; i < 6; i++) {
            x.read(4, 1);
        }
        Due.text(x, LONGEST_PLAN);
        return x;
    }

    static int[] range(int from, int to) {
        int[] range = new int[to - from + 1];
        for (int i = 0; i < range.length; i++) {
            range[i] = from + i;
        }
        return range;
    }
}
