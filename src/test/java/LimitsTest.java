import com.sun.management.ThreadMXBean;
import java.lang.management.ManagementFactory;

/** The longest use of an object, in time and in room, and use beyond it. */
public final class LimitsTest {
    private static final int CALLS = 512;

    private final Checks checks = new Checks("LimitsTest");

    public static void main(String[] args) {
        LimitsTest test = new LimitsTest();
        test.nothingIsMadeByAsking();
        test.longTrailsStayKnown();
        test.laterCallsThrowNothingOfTheMachine();
        test.checks.end();
    }

    /** 12 nodes in a ring, each with a link forth and one back; all the flows there can be. */
    private static Turnpike full() {
        Turnpike t = new Turnpike();
        for (int i = 0; i < 12; i++) {
            t.addNode();
        }
        for (int i = 0; i < 12; i++) {
            t.addLink(i, (i + 1) % 12, 1, 30, 3);
            t.addLink((i + 1) % 12, i, 1, 30, 3);
        }
        for (int i = 0; i < 10; i++) {
            t.addFlow(i, (i + 6) % 12, 1, 0, 1, 40);
        }
        return t;
    }

    private static long made() {
        return ((ThreadMXBean) ManagementFactory.getThreadMXBean()).getCurrentThreadAllocatedBytes();
    }

    private void nothingIsMadeByAsking() {
        Turnpike t = full();
        t.shut(0, true);
        t.step(60);
        t.slow(3, 0, 200);
        long least = Long.MAX_VALUE;
        // The first round may load classes; the least one tells what the calls make.
        for (int round = 0; round < 3; round++) {
            long before = made();
            for (int i = 0; i < 100; i++) {
                t.arrivesIn(i, 60);
                t.emptyIn(60);
                t.distanceWithout(i % 24, 0, 6);
                t.digest();
                t.meanTrip();
                t.step(1);
            }
            least = Math.min(least, made() - before);
        }
        checks.due("bytes made by 600 calls: " + least, true, least < 4096);
        long before = made();
        new Turnpike();
        long bytes = made() - before;
        checks.due("bytes made by the constructor: " + bytes, true, bytes < 200_000);
    }

    /** A vehicle is led round and round a ring, by about as many calls as there are. */
    private void longTrailsStayKnown() {
        Turnpike t = new Turnpike();
        for (int i = 0; i < 4; i++) {
            t.addNode();
        }
        for (int i = 0; i < 3; i++) {
            t.addLink(i, 3, 1, 1, 1);
        }
        for (int i = 0; i < 15; i++) {
            t.addLink(3, 0, 1, 1, 1);
        }
        for (int i = 0; i < 3; i++) {
            t.addLink(i, (i + 1) % 3, 1, 1, 1);
        }
        t.shut(0, true);
        t.shut(1, true);
        t.addFlow(0, 3, 1, 0, 1, 1);
        int open = 2;
        for (int calls = 28; calls < CALLS - 3; calls += 3) {
            // It goes two links; then the open link is shut, and the one behind it opens.
            int next = (open + 2) % 3;
            t.step(2);
            t.shut(open, true);
            t.shut(next, false);
            open = next;
        }
        int over = t.linksOf(0);
        checks.due("linksOf(0) is long: " + over, true, over > 300);
        for (int place = 0; place < over; place++) {
            checks.due("linkAt(0, " + place + ")", 18 + place % 3, t.linkAt(0, place));
        }
        checks.noIndex("linkAt() behind the last one", t, () -> t.linkAt(0, over));
        t.step(4);
        checks.due("stateOf(0) in the end", 2, t.stateOf(0));
    }

    /** What they answer is free. */
    private void laterCallsThrowNothingOfTheMachine() {
        Turnpike t = full();
        for (int i = 0; i < 3 * CALLS; i++) {
            t.step(60);
            t.shut(i % 24, i % 3 == 0);
        }
        checks.due("clock()", 3L * CALLS * 60, t.clock());
        checks.due("digest() once more", t.digest(), t.digest());
        checks.due("emptyIn(60)", t.emptyIn(60), t.emptyIn(60));
    }
}
