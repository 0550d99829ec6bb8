/** Promises 11 to 33: asking the network, vehicles and links. */
public final class AskingTest {
    private final Checks checks = new Checks("AskingTest");

    public static void main(String[] args) {
        AskingTest test = new AskingTest();
        test.promises11To14();
        test.promises15To17();
        test.promises18And19();
        test.promise20();
        test.promise21();
        test.promises22And23();
        test.promises24To27();
        test.promises28And29();
        test.promise30();
        test.promises31To33();
        test.checks.end();
    }

    private void promises11To14() {
        Turnpike t = Checks.withNodes(3);
        checks.due("nodes()", 3, t.nodes());
        t.addLink(0, 1, 1, 1, 1);
        t.addLink(1, 0, 1, 1, 1);
        checks.due("links()", 2, t.links());
        t.addFlow(0, 1, 0, 0, 1, 1);
        checks.due("flows()", 1, t.flows());
        checks.due("clock()", 0, t.clock());
        t.step(9);
        t.emptyIn(5);
        checks.due("clock()", 9, t.clock());
    }

    private void promises15To17() {
        Turnpike t = Checks.withNodes(2);
        t.addLink(0, 1, 4, 9, 2);
        t.addLink(1, 0, 5, 9, 3);
        t.shut(1, true);
        checks.due("isShut(0)", false, t.isShut(0));
        checks.due("isShut(1)", true, t.isShut(1));
        checks.due("rateOf(0)", 2, t.rateOf(0));
        t.slow(0, 0, 60);
        checks.due("rateOf(0) as it is", 0, t.rateOf(0));
        checks.due("rateOf(1)", 3, t.rateOf(1));
        checks.due("costOf(1)", 5, t.costOf(1));
        t.addFlow(0, 1, 0, 0, 1, 5);
        t.step(8);
        // Those that came onto the link in the ticks 0 to 3 are at the END in tick 7.
        checks.due("costOf(0) with a rate of 0", 4 + 10 * 4, t.costOf(0));
        t.slow(0, 1, 60);
        checks.due("costOf(0) as it was reckoned last", 44, t.costOf(0));
        t.setRefresh(30);
        t.step(22);
        checks.due("costOf(0) as it was reckoned last, in tick 7", 44, t.costOf(0));
        checks.due("onLink(0)", 0, t.onLink(0));
        t.step(1);
        checks.due("costOf(0) without a queue", 4, t.costOf(0));
        for (int link : new int[] {-1, 2, 24, Integer.MAX_VALUE, Integer.MIN_VALUE}) {
            checks.noIndex("isShut(" + link + ")", t, () -> t.isShut(link));
            checks.noIndex("rateOf(" + link + ")", t, () -> t.rateOf(link));
            checks.noIndex("costOf(" + link + ")", t, () -> t.costOf(link));
        }
        costIsMadeUp();
    }

    /** 5 queued at a rate of 2 cost 3 more, 4 cost 2 more. */
    private void costIsMadeUp() {
        Turnpike t = Checks.withNodes(2);
        t.addLink(0, 1, 1, 9, 2);
        t.addPhase(1, 0, 40, 40);
        t.addFlow(0, 1, 0, 0, 1, 5);
        t.step(5);
        checks.due("costOf(0) of 4 queued", 3, t.costOf(0));
        t.step(1);
        checks.due("costOf(0) of 5 queued", 4, t.costOf(0));
        t.slow(0, 3, 9);
        t.step(1);
        checks.due("costOf(0) of 5 queued at a rate of 3", 3, t.costOf(0));
    }

    private void promises18And19() {
        Turnpike t = Checks.withNodes(3);
        t.addLink(0, 1, 1, 9, 1);
        t.addLink(2, 1, 1, 9, 1);
        t.addPhase(1, 1, 2, 4);
        t.addPhase(1, 2, 1, 3);
        checks.due("phaseOf() ahead of its first tick", -1, t.phaseOf(1));
        checks.due("phaseTicks() ahead of its first tick", 0, t.phaseTicks(1));
        checks.due("phaseOf() without a signal", -1, t.phaseOf(0));
        t.step(1);
        phaseIs(t, 0, 1);
        checks.due("phaseOf() without a signal", -1, t.phaseOf(0));
        checks.due("phaseTicks() without a signal", 0, t.phaseTicks(0));
        t.step(1);
        phaseIs(t, 0, 2);
        t.step(1);
        phaseIs(t, 1, 1);
        t.step(1);
        phaseIs(t, 0, 1);
        // The second one has a queue now, and is on for its greatest number of ticks.
        t.addFlow(2, 1, 0, 4, 1, 40);
        t.step(1);
        phaseIs(t, 0, 2);
        t.step(1);
        phaseIs(t, 1, 1);
        t.step(2);
        phaseIs(t, 1, 3);
        t.step(1);
        phaseIs(t, 0, 1);
        for (int node : new int[] {-1, 3, 12, Integer.MAX_VALUE, Integer.MIN_VALUE}) {
            checks.noIndex("phaseOf(" + node + ")", t, () -> t.phaseOf(node));
            checks.noIndex("phaseTicks(" + node + ")", t, () -> t.phaseTicks(node));
        }
        onePhase();
    }

    private void phaseIs(Turnpike t, int phase, int ticks) {
        checks.due("phaseOf(1) at " + t.clock(), phase, t.phaseOf(1));
        checks.due("phaseTicks(1) at " + t.clock(), ticks, t.phaseTicks(1));
    }

    /** Behind the last phase the first one is on, for its first tick, also if it is the same. */
    private void onePhase() {
        Turnpike t = Checks.withNodes(2);
        t.addPhase(1, 0, 3, 9);
        t.step(3);
        phaseIs(t, 0, 3);
        t.step(1);
        phaseIs(t, 0, 1);
    }

    private void promise20() {
        Turnpike t = Checks.withNodes(4);
        t.addLink(0, 1, 5, 9, 1);
        t.addLink(0, 2, 1, 9, 1);
        t.addLink(2, 1, 1, 9, 1);
        checks.due("distance(0, 1) over two links", 2, t.distance(0, 1));
        checks.due("distance(1, 1)", 0, t.distance(1, 1));
        checks.due("distance(1, 0)", -1, t.distance(1, 0));
        checks.due("distance(0, 3)", -1, t.distance(0, 3));
        t.shut(2, true);
        checks.due("distance(0, 1) without the link 2", 5, t.distance(0, 1));
        t.shut(0, true);
        checks.due("distance(0, 1) without both", -1, t.distance(0, 1));
        t.shut(0, false);
        t.shut(2, false);
        t.addPhase(1, 1, 40, 40);
        t.addFlow(2, 1, 0, 0, 1, 40);
        t.step(5);
        // In tick 4 those of the ticks 0 to 3 are queued.
        checks.due("distance(0, 1) past a queue", 5, t.distance(0, 1));
        checks.due("distance(2, 1) with a queue", 5, t.distance(2, 1));
        for (int node : new int[] {-1, 4, 12, Integer.MAX_VALUE, Integer.MIN_VALUE}) {
            checks.noIndex("distance(" + node + ", 0)", t, () -> t.distance(node, 0));
            checks.noIndex("distance(0, " + node + ")", t, () -> t.distance(0, node));
            checks.noIndex("distance(" + node + ", " + node + ")", t, () -> t.distance(node, node));
        }
    }

    private void promise21() {
        Turnpike t = Checks.withNodes(5);
        t.addLink(3, 1, 2, 9, 1);
        t.addLink(0, 2, 1, 9, 1);
        t.addLink(0, 3, 1, 9, 1);
        t.addLink(2, 1, 2, 9, 1);
        t.addLink(0, 1, 3, 9, 1);
        checks.due("nextLink(0, 1) of three that cost the same", 1, t.nextLink(0, 1));
        checks.due("nextLink(2, 1)", 3, t.nextLink(2, 1));
        checks.due("nextLink(0, 0)", -1, t.nextLink(0, 0));
        checks.due("nextLink(1, 0)", -1, t.nextLink(1, 0));
        checks.due("nextLink(0, 4)", -1, t.nextLink(0, 4));
        t.shut(3, true);
        checks.due("nextLink(0, 1) without that way", 2, t.nextLink(0, 1));
        t.shut(2, true);
        checks.due("nextLink(0, 1) without those ways", 4, t.nextLink(0, 1));
        t.addLink(0, 1, 2, 9, 1);
        checks.due("nextLink(0, 1) over a shorter one", 5, t.nextLink(0, 1));
        for (int node : new int[] {-1, 5, 12, Integer.MAX_VALUE, Integer.MIN_VALUE}) {
            checks.noIndex("nextLink(" + node + ", 0)", t, () -> t.nextLink(node, 0));
            checks.noIndex("nextLink(0, " + node + ")", t, () -> t.nextLink(0, node));
        }
    }

    private void promises22And23() {
        Turnpike t = Checks.withNodes(3);
        t.addLink(0, 1, 2, 1, 1);
        t.addFlow(0, 1, 0, 0, 1, 2);
        t.addFlow(0, 2, 0, 1, 1, 1);
        checks.due("vehicles() ahead", 0, t.vehicles());
        checks.noIndex("stateOf(0) ahead", t, () -> t.stateOf(0));
        t.step(1);
        checks.due("vehicles()", 1, t.vehicles());
        checks.due("stateOf() ON", 1, t.stateOf(0));
        t.step(1);
        checks.due("vehicles(), those given up as well", 3, t.vehicles());
        checks.due("stateOf() WAITING for room", 0, t.stateOf(1));
        checks.due("stateOf() GIVEN UP", 3, t.stateOf(2));
        t.step(1);
        checks.due("stateOf() ARRIVED", 2, t.stateOf(0));
        checks.due("stateOf() ON", 1, t.stateOf(1));
        checks.noIndex("stateOf(3)", t, () -> t.stateOf(3));
        checks.noIndex("stateOf(-1)", t, () -> t.stateOf(-1));
        checks.noIndex("stateOf(MAX)", t, () -> t.stateOf(Integer.MAX_VALUE));
        atMost200();
    }

    private void atMost200() {
        Turnpike t = Checks.withNodes(3);
        t.addLink(0, 1, 1, 30, 3);
        t.addFlow(1, 0, 0, 0, 1, 40);
        for (int i = 0; i < 5; i++) {
            t.addFlow(0, 1, i % 2, 0, 1, 40);
        }
        t.step(60);
        // Six in each of the ticks 0 to 32, and two in the tick 33.
        checks.due("vehicles() of 240", 200, t.vehicles());
        checks.due("ofFlow(0, 2)", 34, t.ofFlow(0, 2));
        checks.due("ofFlow(1, 0)", 34, t.ofFlow(1, 0));
        checks.due("ofFlow(2, 0)", 33, t.ofFlow(2, 0));
        checks.due("ofFlow(5, 0)", 33, t.ofFlow(5, 0));
        checks.due("stateOf(199)", 0, t.stateOf(199));
        checks.noIndex("stateOf(200)", t, () -> t.stateOf(200));
    }

    private void promises24To27() {
        Turnpike t = Checks.withNodes(4);
        t.addLink(0, 1, 2, 9, 1);
        t.addLink(1, 2, 3, 9, 1);
        t.addFlow(0, 2, 1, 0, 1, 1);
        t.addFlow(3, 2, 1, 0, 1, 1);
        t.addFlow(3, 2, 0, 0, 1, 1);
        t.step(1);
        vehicleIs(t, 0, 0, 2, 1);
        vehicleIs(t, 1, -1, -1, 0);
        vehicleIs(t, 2, -1, -1, 0);
        t.step(1);
        vehicleIs(t, 0, 0, 2, 1);
        t.step(1);
        vehicleIs(t, 0, 1, 5, 2);
        checks.due("linkAt(0, 0)", 0, t.linkAt(0, 0));
        checks.due("linkAt(0, 1)", 1, t.linkAt(0, 1));
        checks.noIndex("linkAt(0, 2)", t, () -> t.linkAt(0, 2));
        checks.noIndex("linkAt(0, -1)", t, () -> t.linkAt(0, -1));
        checks.noIndex("linkAt(1, 0)", t, () -> t.linkAt(1, 0));
        t.step(3);
        vehicleIs(t, 0, -1, -1, 2);
        checks.due("linkAt(0, 1) of one that arrived", 1, t.linkAt(0, 1));
        for (int vehicle : new int[] {-1, 3, 200, Integer.MAX_VALUE, Integer.MIN_VALUE}) {
            checks.noIndex("linkOf(" + vehicle + ")", t, () -> t.linkOf(vehicle));
            checks.noIndex("endOf(" + vehicle + ")", t, () -> t.endOf(vehicle));
            checks.noIndex("linksOf(" + vehicle + ")", t, () -> t.linksOf(vehicle));
            checks.noIndex("linkAt(" + vehicle + ", 0)", t, () -> t.linkAt(vehicle, 0));
        }
        setVehiclesHaveNotGoneTheirWayYet();
    }

    private void vehicleIs(Turnpike t, int vehicle, int link, int end, int links) {
        String at = "(" + vehicle + ") at " + t.clock();
        checks.due("linkOf" + at, link, t.linkOf(vehicle));
        checks.due("endOf" + at, end, t.endOf(vehicle));
        checks.due("linksOf" + at, links, t.linksOf(vehicle));
    }

    private void setVehiclesHaveNotGoneTheirWayYet() {
        Turnpike t = Checks.withNodes(3);
        t.addLink(0, 1, 2, 1, 1);
        t.addLink(1, 2, 3, 9, 1);
        t.addFlow(0, 2, 0, 0, 1, 2);
        t.step(2);
        vehicleIs(t, 0, 0, 2, 1);
        vehicleIs(t, 1, -1, -1, 0);
        checks.noIndex("linkAt(0, 1) of a link ahead", t, () -> t.linkAt(0, 1));
        checks.noIndex("linkAt(1, 0) of a link ahead", t, () -> t.linkAt(1, 0));
    }

    private void promises28And29() {
        Turnpike t = Checks.withNodes(3);
        t.addLink(0, 1, 2, 9, 1);
        t.addLink(1, 2, 3, 9, 1);
        t.addPhase(2, 0, 7, 7);
        t.addPhase(2, 2, 40, 40);
        t.addFlow(0, 2, 0, 1, 1, 1);
        t.addFlow(2, 0, 0, 1, 1, 1);
        t.step(7);
        checks.due("tripOf(0) on its way", -1, t.tripOf(0));
        checks.due("delayOf(0) on its way", -1, t.delayOf(0));
        t.step(1);
        // It came in tick 1, was at the END in tick 6, and had green in tick 7.
        checks.due("tripOf(0)", 6, t.tripOf(0));
        checks.due("delayOf(0)", 1, t.delayOf(0));
        checks.due("tripOf(1) given up", -1, t.tripOf(1));
        checks.due("delayOf(1) given up", -1, t.delayOf(1));
        t.step(9);
        checks.due("tripOf(0) for good", 6, t.tripOf(0));
        for (int vehicle : new int[] {-1, 2, 200, Integer.MAX_VALUE, Integer.MIN_VALUE}) {
            checks.noIndex("tripOf(" + vehicle + ")", t, () -> t.tripOf(vehicle));
            checks.noIndex("delayOf(" + vehicle + ")", t, () -> t.delayOf(vehicle));
        }
    }

    private void promise30() {
        Turnpike t = Checks.withNodes(3);
        t.addLink(0, 1, 4, 9, 1);
        t.addFlow(0, 1, 0, 0, 30, 1);
        t.addFlow(0, 1, 1, 0, 30, 1);
        t.addFlow(0, 2, 1, 0, 30, 1);
        t.addFlow(0, 1, 1, 0, 30, 1);
        t.step(1);
        checks.due("waiting(0) as one in a tick goes", 3, t.waiting(0));
        checks.due("waiting(1)", 0, t.waiting(1));
        t.step(5);
        // The one that finds no way keeps back the one behind it.
        checks.due("waiting(0)", 2, t.waiting(0));
        checks.due("stateOf(3)", 0, t.stateOf(3));
        t.addLink(1, 2, 1, 9, 1);
        t.step(2);
        checks.due("waiting(0) with a way", 0, t.waiting(0));
        for (int node : new int[] {-1, 3, 12, Integer.MAX_VALUE, Integer.MIN_VALUE}) {
            checks.noIndex("waiting(" + node + ")", t, () -> t.waiting(node));
        }
    }

    private void promises31To33() {
        Turnpike t = Checks.withNodes(3);
        t.addLink(0, 1, 3, 9, 1);
        t.addLink(1, 2, 1, 2, 2);
        t.addPhase(2, 0, 40, 40);
        t.addFlow(0, 2, 0, 0, 1, 6);
        t.step(3);
        checks.due("onLink(0)", 3, t.onLink(0));
        checks.due("vehicleAt(0, 0)", 0, t.vehicleAt(0, 0));
        checks.due("vehicleAt(0, 2)", 2, t.vehicleAt(0, 2));
        checks.due("queue(0) in the tick that comes", 1, t.queue(0));
        t.step(3);
        checks.due("onLink(1) is full", 2, t.onLink(1));
        checks.due("onLink(0)", 4, t.onLink(0));
        checks.due("vehicleAt(0, 0)", 2, t.vehicleAt(0, 0));
        checks.due("vehicleAt(1, 1)", 1, t.vehicleAt(1, 1));
        checks.due("queue(0)", 2, t.queue(0));
        checks.due("queue(1)", 2, t.queue(1));
        checks.noIndex("vehicleAt(0, 4)", t, () -> t.vehicleAt(0, 4));
        checks.noIndex("vehicleAt(0, -1)", t, () -> t.vehicleAt(0, -1));
        checks.noIndex("vehicleAt(0, MAX)", t, () -> t.vehicleAt(0, Integer.MAX_VALUE));
        for (int link : new int[] {-1, 2, 24, Integer.MAX_VALUE, Integer.MIN_VALUE}) {
            checks.noIndex("onLink(" + link + ")", t, () -> t.onLink(link));
            checks.noIndex("vehicleAt(" + link + ", 0)", t, () -> t.vehicleAt(link, 0));
            checks.noIndex("queue(" + link + ")", t, () -> t.queue(link));
        }
    }
}
