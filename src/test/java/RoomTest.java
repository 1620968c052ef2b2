import com.sun.management.ThreadMXBean;
import java.lang.management.ManagementFactory;

/** All calls of a run live in one room: the object is made of little, and no call makes anything. */
public final class RoomTest {
    private static final Due DUE = new Due("RoomTest");
    private static final ThreadMXBean THREADS = (ThreadMXBean) ManagementFactory.getThreadMXBean();
    private static final String PLAN = "spot 1:9;quiet 100;read 1:10;ask 2;way worst;quiet 100;way row;quiet 50";

    private static long bytes() {
        return THREADS.getThreadAllocatedBytes(Thread.currentThread().getId());
    }

    public static void main(String[] args) {
        everyCall(new QuietChecks());
        long start = bytes();
        QuietChecks x = new QuietChecks();
        long made = bytes() - start;
        DUE.holds("the object is made of " + made + " bytes", made < 40000);
        start = bytes();
        everyCall(x);
        for (int i = 0; i < 300; i++) {
            x.digest();
        }
        long more = bytes() - start;
        // the machine itself takes a little for its own sake, but less than one object a call
        DUE.holds("400 calls make " + more + " bytes", more < 4000);
        DUE.end();
    }

    private static void everyCall(QuietChecks x) {
        x.set(1, 1);
        x.set(4, 50);
        x.addSpares(1);
        for (int i = 0; i < 20; i++) {
            x.spot(i % 8, 9);
        }
        x.ask(1);
        x.unask(1);
        x.quiet(500);
        x.quiet(3);
        x.giveUp();
        x.read(1, 200);
        for (int index = 0; index < 10; index++) {
            x.entry(index, 3);
            x.lineAt(index, 2);
        }
        x.count(0);
        x.setting(0);
        x.span(1, 3);
        x.tries(1, 0);
        x.entries();
        x.overdue();
        x.nextCheck();
        x.checkedIn(3);
        x.ifQuiet(3000);
        x.bestWay(3000);
        x.clearText();
        for (int i = 0; i < PLAN.length(); i++) {
            x.type(PLAN.charAt(i));
        }
        x.syntaxError();
        x.carryOut();
        x.undo();
        x.digest();
    }
}
