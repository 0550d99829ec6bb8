/** Promises 34 to 41: what was counted, and what would be. */
public final class CountsTest {
    private final Checks checks = new Checks("CountsTest");

    public static void main(String[] args) {
        CountsTest test = new CountsTest();
        test.promise34();
        test.promise35();
        test.promise36();
        test.promise37();
        test.promise38();
        test.promise38Edges();
        test.promise39();
        test.promise40();
        test.promise41();
        test.promise41OfAFullOne();
        test.checks.end();
    }

    private void promise34() {
        Turnpike t = Checks.withNodes(2);
        t.addLink(0, 1, 1, 9, 1);
        t.addPhase(1, 0, 4, 4);
        t.addPhase(1, 1, 40, 40);
        t.addFlow(0, 1, 0, 0, 1, 5);
        // In tick t: on it come 0 to t; queued at (g) are those of 0 to t - 1, less those gone.
        t.step(4);
        countsAre(t, 4, 0, 3, 6);
        t.step(1);
        countsAre(t, 5, 1, 3, 9);
        t.step(1);
        countsAre(t, 5, 2, 3, 12);
        t.step(9);
        countsAre(t, 5, 5, 3, 15);
        checks.noIndex("count(-1, 0)", t, () -> t.count(-1, 0));
        checks.noIndex("count(1, 0)", t, () -> t.count(1, 0));
        checks.noIndex("count(1, 4)", t, () -> t.count(1, 4));
        checks.noArgument("count(0, -1)", t, () -> t.count(0, -1));
        checks.noArgument("count(0, 4)", t, () -> t.count(0, 4));
    }

    private void countsAre(Turnpike t, int came, int left, int greatest, int sum) {
        String at = " at " + t.clock();
        checks.due("count(0, 0)" + at, came, t.count(0, 0));
        checks.due("count(0, 1)" + at, left, t.count(0, 1));
        checks.due("count(0, 2)" + at, greatest, t.count(0, 2));
        checks.due("count(0, 3)" + at, sum, t.count(0, 3));
    }

    private void promise35() {
        Turnpike t = Checks.withNodes(4);
        t.addLink(0, 1, 1, 9, 3);
        t.addLink(1, 2, 1, 9, 3);
        t.addLink(1, 3, 1, 9, 3);
        t.addFlow(0, 2, 0, 0, 2, 3);
        t.addFlow(0, 3, 1, 1, 2, 2);
        t.addFlow(0, 1, 1, 6, 2, 2);
        t.addFlow(1, 2, 1, 0, 2, 2);
        t.step(30);
        checks.due("turned(0, 1)", 3, t.turned(0, 1));
        checks.due("turned(0, 2)", 2, t.turned(0, 2));
        checks.due("turned(1, 0)", 0, t.turned(1, 0));
        checks.due("turned(0, 0)", 0, t.turned(0, 0));
        checks.due("count(0, 1), those that arrived as well", 7, t.count(0, 1));
        checks.due("count(1, 0), those that waited ahead of it as well", 5, t.count(1, 0));
        checks.noIndex("turned(-1, 0)", t, () -> t.turned(-1, 0));
        checks.noIndex("turned(0, -1)", t, () -> t.turned(0, -1));
        checks.noIndex("turned(3, 0)", t, () -> t.turned(3, 0));
        checks.noIndex("turned(0, 3)", t, () -> t.turned(0, 3));
        checks.noIndex("turned(0, 24)", t, () -> t.turned(0, 24));
    }

    private void promise36() {
        Turnpike t = Checks.withNodes(3);
        t.addLink(0, 1, 2, 1, 1);
        t.addFlow(0, 1, 0, 0, 1, 3);
        t.addFlow(0, 2, 0, 0, 5, 3);
        t.addFlow(1, 2, 1, 0, 5, 3);
        flowIs(t, 0, 0, 0, 0, 0, 0, 0);
        // Room for one alone: they go onto it in the ticks 0, 2 and 4, arrive in 2, 4 and 6.
        t.step(5);
        flowIs(t, 0, 3, 2, 0, 5, 1, 3);
        t.step(10);
        flowIs(t, 0, 3, 3, 0, 9, 3, 4);
        flowIs(t, 1, 3, 0, 3, 0, 0, 0);
        flowIs(t, 2, 3, 0, 0, 0, 0, 0);
        checks.noIndex("ofFlow(-1, 0)", t, () -> t.ofFlow(-1, 0));
        checks.noIndex("ofFlow(3, 0)", t, () -> t.ofFlow(3, 0));
        checks.noIndex("ofFlow(10, 6)", t, () -> t.ofFlow(10, 6));
        checks.noArgument("ofFlow(0, -1)", t, () -> t.ofFlow(0, -1));
        checks.noArgument("ofFlow(0, 6)", t, () -> t.ofFlow(0, 6));
    }

    private void flowIs(Turnpike t, int flow, int... want) {
        for (int what = 0; what < 6; what++) {
            String call = "ofFlow(" + flow + ", " + what + ") at " + t.clock();
            checks.due(call, want[what], t.ofFlow(flow, what));
        }
    }

    private void promise37() {
        Turnpike t = Checks.withNodes(3);
        t.addLink(0, 1, 2, 1, 1);
        checks.dueDouble("meanTrip() without any", 0, t.meanTrip());
        t.addFlow(0, 1, 0, 0, 1, 3);
        t.addFlow(0, 2, 0, 0, 5, 3);
        t.step(1);
        checks.dueDouble("meanTrip() with one on its way", 0, t.meanTrip());
        t.step(4);
        checks.dueDouble("meanTrip() of 2 and 3", 2.5, t.meanTrip());
        t.addFlow(0, 1, 1, 5, 1, 1);
        t.step(10);
        // The last one comes in tick 5, goes onto the link in tick 6, and arrives in tick 8.
        checks.dueDouble("meanTrip() of 2, 3, 4 and 3", 3.0, t.meanTrip());
        t.addFlow(0, 1, 1, 15, 9, 2);
        t.step(30);
        checks.dueDouble("meanTrip() of 2, 3, 4, 3, 2 and 2", 16.0 / 6, t.meanTrip());
    }

    private void promise38() {
        Turnpike t = Checks.withNodes(3);
        t.addLink(0, 1, 3, 9, 1);
        t.addLink(1, 2, 4, 9, 1);
        t.addFlow(0, 2, 1, 0, 1, 2);
        t.addFlow(0, 2, 0, 0, 1, 1);
        t.step(1);
        long before = t.digest();
        // It goes onto the links in the ticks 0 and 3, and arrives in tick 7.
        checks.due("arrivesIn(0, 7)", 7, t.arrivesIn(0, 7));
        checks.due("arrivesIn(0, 60)", 7, t.arrivesIn(0, 60));
        checks.due("arrivesIn(0, 6)", -1, t.arrivesIn(0, 6));
        checks.due("arrivesIn(1, 60) as the next one", 8, t.arrivesIn(1, 60));
        checks.due("digest() behind what would be", before, t.digest());
        t.step(6);
        checks.due("arrivesIn(0, 1)", 1, t.arrivesIn(0, 1));
        t.step(1);
        checks.due("stateOf(0)", 2, t.stateOf(0));
        checks.due("arrivesIn(0, 1) of one that has", 0, t.arrivesIn(0, 1));
        t.step(1);
        checks.due("stateOf(1)", 2, t.stateOf(1));
    }

    private void promise38Edges() {
        Turnpike t = Checks.withNodes(3);
        t.addLink(0, 1, 1, 9, 1);
        checks.noIndex("arrivesIn(0, 1) ahead of all", t, () -> t.arrivesIn(0, 1));
        t.addFlow(0, 2, 0, 0, 1, 1);
        t.addFlow(0, 1, 0, 0, 1, 1);
        t.addFlow(0, 1, 0, 5, 1, 1);
        t.step(1);
        checks.due("arrivesIn() of one that was given up", -1, t.arrivesIn(0, 60));
        checks.noIndex("arrivesIn() of one that comes", t, () -> t.arrivesIn(2, 60));
        checks.noIndex("arrivesIn(-1, 0)", t, () -> t.arrivesIn(-1, 0));
        checks.noIndex("arrivesIn(MAX, 1)", t, () -> t.arrivesIn(Integer.MAX_VALUE, 1));
        checks.noArgument("arrivesIn(1, 0)", t, () -> t.arrivesIn(1, 0));
        checks.noArgument("arrivesIn(1, 61)", t, () -> t.arrivesIn(1, 61));
        t.slow(0, 0, 200);
        checks.due("arrivesIn() on a link that is slowed", -1, t.arrivesIn(1, 60));
        t.slow(0, 0, 3);
        checks.due("arrivesIn() on a link that is slowed", 4, t.arrivesIn(1, 60));
        checks.due("arrivesIn() once more", 4, t.arrivesIn(1, 60));
        t.step(4);
        checks.noArgument("arrivesIn(1, 0) of one that has", t, () -> t.arrivesIn(1, 0));
    }

    private void promise39() {
        Turnpike t = Checks.withNodes(3);
        t.addLink(0, 1, 3, 9, 1);
        checks.due("emptyIn(1) of nothing", 0, t.emptyIn(1));
        t.addFlow(0, 1, 0, 0, 6, 2);
        t.addFlow(0, 2, 0, 0, 1, 1);
        checks.due("emptyIn(60) ahead of all", 0, t.emptyIn(60));
        t.step(1);
        long before = t.digest();
        checks.due("emptyIn(60)", 3, t.emptyIn(60));
        checks.due("emptyIn(3)", 3, t.emptyIn(3));
        checks.due("emptyIn(2)", -1, t.emptyIn(2));
        checks.due("digest() behind what would be", before, t.digest());
        t.step(3);
        checks.due("emptyIn(1) as none is", 0, t.emptyIn(1));
        t.addFlow(0, 2, 1, 4, 1, 1);
        t.step(1);
        checks.due("emptyIn(60) with one that waits", -1, t.emptyIn(60));
        checks.noArgument("emptyIn(0)", t, () -> t.emptyIn(0));
        checks.noArgument("emptyIn(61)", t, () -> t.emptyIn(61));
        checks.noArgument("emptyIn(-1)", t, () -> t.emptyIn(-1));
        t.addLink(1, 2, 1, 9, 1);
        // That one goes on in tick 5, and one more comes in tick 6; it is at the END in tick 9.
        checks.due("emptyIn(60) with one that comes", 5, t.emptyIn(60));
        t.step(5);
        checks.due("vehicles()", 4, t.vehicles());
        checks.due("emptyIn(60)", 0, t.emptyIn(60));
    }

    private void promise40() {
        Turnpike t = Checks.withNodes(4);
        t.addLink(0, 1, 1, 9, 1);
        t.addLink(1, 2, 1, 9, 1);
        t.addLink(0, 2, 7, 9, 1);
        checks.due("distance(0, 2)", 2, t.distance(0, 2));
        checks.due("distanceWithout(0, 0, 2)", 7, t.distanceWithout(0, 0, 2));
        checks.due("distanceWithout(1, 0, 2)", 7, t.distanceWithout(1, 0, 2));
        checks.due("distanceWithout(2, 0, 2)", 2, t.distanceWithout(2, 0, 2));
        checks.due("distanceWithout(0, 0, 0)", 0, t.distanceWithout(0, 0, 0));
        checks.due("distanceWithout(1, 1, 2)", -1, t.distanceWithout(1, 1, 2));
        checks.due("distance(0, 2) as before", 2, t.distance(0, 2));
        checks.due("isShut(0) as before", false, t.isShut(0));
        t.shut(2, true);
        checks.due("distanceWithout(2, 0, 2) of a shut one", 2, t.distanceWithout(2, 0, 2));
        checks.due("distanceWithout(0, 0, 2) of a shut one", -1, t.distanceWithout(0, 0, 2));
        checks.due("isShut(2) as before", true, t.isShut(2));
        checks.noIndex("distanceWithout(-1, 0, 1)", t, () -> t.distanceWithout(-1, 0, 1));
        checks.noIndex("distanceWithout(3, 0, 1)", t, () -> t.distanceWithout(3, 0, 1));
        checks.noIndex("distanceWithout(0, -1, 1)", t, () -> t.distanceWithout(0, -1, 1));
        checks.noIndex("distanceWithout(0, 4, 1)", t, () -> t.distanceWithout(0, 4, 1));
        checks.noIndex("distanceWithout(0, 0, -1)", t, () -> t.distanceWithout(0, 0, -1));
        checks.noIndex("distanceWithout(0, 0, 4)", t, () -> t.distanceWithout(0, 0, 4));
    }

    private void promise41() {
        Turnpike t = new Turnpike();
        checks.due("digest() of a new object", 58038L * 31 * 31 * 31 * 31 * 31, t.digest());
        t.addNode();
        t.step(2);
        // clock, nodes, links, flows, vehicles; phase, its ticks, waiting, distance, next link.
        checks.due("digest() of a node", chain(2, 1, 0, 0, 0, -1, 0, 0, 0, -1), t.digest());
    }

    private static long chain(long... numbers) {
        long d = 58038;
        for (long x : numbers) {
            d = d * 31 + x;
        }
        return d;
    }

    private void promise41OfAFullOne() {
        Turnpike t = Checks.withNodes(2);
        t.addLink(0, 1, 2, 9, 3);
        t.addLink(1, 0, 1, 9, 1);
        t.shut(1, true);
        t.addPhase(1, 1, 5, 9);
        t.addFlow(0, 1, 1, 0, 1, 3);
        t.addFlow(1, 0, 0, 0, 9, 1);
        t.step(3);
        // In tick 2 the first one arrived, and the third one went onto the link 0.
        long want = chain(3, 2, 2, 2, 4,
                -1, 0, 0, 0, -1, 3, 0,
                0, 3, 0, -1, -1, 0, -1,
                0, 3, 3, 2, 2, 3, 1, 3, 1, 0, 0, 0, 0,
                1, 1, 1, 0, 0, 0, 0, 0, 0, 0, 0,
                3, 1, 0, 2, 0, 2,
                1, 0, 1, 0, 0, 0,
                2, -1, -1, 1, 2, 0,
                3, -1, -1, 0, -1, -1,
                1, 0, 3, 1, -1, -1,
                1, 0, 4, 1, -1, -1);
        checks.due("digest()", want, t.digest());
        checks.due("digest() once more", want, t.digest());
    }
}
