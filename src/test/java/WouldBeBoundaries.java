import java.math.BigInteger;
import java.util.ArrayList;
import java.util.List;

/** Promises 38 to 41: what would be. */
final class WouldBeBoundaries extends Boundaries {
    WouldBeBoundaries(Checks checks, Document document) {
        super(checks, document);
    }

    @Override
    void run() {
        promise38();
        promise38Throws();
        promise39();
        promise39Throws();
        promise40();
        promise41();
    }

    /** Three links of 20 ticks, and one of the last time: the trip takes 60 ticks and that. */
    private static Turnpike longRoad(int lastTime) {
        Turnpike t = Checks.withNodes(5);
        for (int i = 0; i < 3; i++) {
            t.addLink(i, i + 1, 20, 1, 1);
        }
        t.addLink(3, 4, lastTime, 1, 1);
        t.addFlow(0, 4, SET, 0, 1, 1);
        t.step(1);
        return t;
    }

    private void promise38() {
        promise(38, "- `vehicle`: a vehicle - `ticks`: how many ticks at most Returns in how many ticks it "
                + "would have ARRIVED (0, if it has); -1 if it would not within so many.");
        Turnpike t = longRoad(2);
        checks.due("arrivesIn(0, 60) in 62", -1, t.arrivesIn(0, 60));
        t.step(1);
        checks.due("arrivesIn(0, 60) in 61", -1, t.arrivesIn(0, 60));
        t.step(1);
        checks.due("arrivesIn(0, 60) in 60", 60, t.arrivesIn(0, 60));
        checks.due("arrivesIn(0, 59) in 60", -1, t.arrivesIn(0, 59));
        t.step(58);
        checks.due("arrivesIn(0, 1) in 2", -1, t.arrivesIn(0, 1));
        checks.due("arrivesIn(0, 2) in 2", 2, t.arrivesIn(0, 2));
        t.step(1);
        checks.due("arrivesIn(0, 1) in 1", 1, t.arrivesIn(0, 1));
        checks.due("arrivesIn(0, 60) in 1", 1, t.arrivesIn(0, 60));
        t.step(1);
        checks.due("arrivesIn(0, 1) of one that has", 0, t.arrivesIn(0, 1));
        checks.due("arrivesIn(0, 60) of one that has", 0, t.arrivesIn(0, 60));
        checks.due("clock()", 63, t.clock());
        ofEachState();
        whatComesInBetween();
        overShutLinks();
        byCostsOfLongAgo();
        byCostsThatStay();
        asTheFirstRateIsBack();
        atTheLastNodes();
        asTicksPlay(some(), some());
        asTicksPlay(full(), full());
        asTicksPlay(onTheWay(), onTheWay());
        Turnpike later = onTheWay();
        Turnpike twin = onTheWay();
        later.step(20);
        twin.step(20);
        asTicksPlay(later, twin);
    }

    /** What one of two that are the same answers is what ticks then show of the other one. */
    private void asTicksPlay(Turnpike asked, Turnpike played) {
        int[] in = new int[asked.vehicles()];
        for (int vehicle = 0; vehicle < in.length; vehicle++) {
            in[vehicle] = played.stateOf(vehicle) == 2 ? 0 : -1;
        }
        int empty = isEmpty(played) ? 0 : -1;
        for (int ticks = 1; ticks <= 60; ticks++) {
            played.step(1);
            for (int vehicle = 0; vehicle < in.length; vehicle++) {
                if (in[vehicle] < 0 && played.stateOf(vehicle) == 2) {
                    in[vehicle] = ticks;
                }
            }
            empty = empty < 0 && isEmpty(played) ? ticks : empty;
        }
        for (int vehicle = 0; vehicle < in.length; vehicle++) {
            checks.due("arrivesIn(" + vehicle + ", 60) at " + asked.clock(), in[vehicle],
                    asked.arrivesIn(vehicle, 60));
        }
        checks.due("emptyIn(60) at " + asked.clock(), empty, asked.emptyIn(60));
    }

    private static boolean isEmpty(Turnpike t) {
        for (int vehicle = 0; vehicle < t.vehicles(); vehicle++) {
            if (t.stateOf(vehicle) < 2) {
                return false;
            }
        }
        return true;
    }

    private void ofEachState() {
        Turnpike t = some();
        int[] in = {0, 2, -1, 4};
        for (int vehicle = 0; vehicle < 4; vehicle++) {
            checks.due("arrivesIn(" + vehicle + ", 60)", in[vehicle], t.arrivesIn(vehicle, 60));
        }
        checks.due("arrivesIn(3, 3) of one that waits", -1, t.arrivesIn(3, 3));
    }

    /** Signals, slowed links, costs that are reckoned and vehicles that come play as in ticks. */
    private void whatComesInBetween() {
        for (int vehicle = 0; vehicle < 6; vehicle++) {
            Turnpike t = Checks.withNodes(3);
            t.addLink(0, 1, 2, 2, 2);
            t.addLink(0, 1, 3, 2, 1);
            t.addLink(1, 2, 1, 1, 1);
            t.addPhase(1, 0, 3, 3);
            t.addPhase(1, 3, 2, 4);
            t.slow(2, 0, 20);
            t.addFlow(0, 2, HEEDING, 0, 1, 9);
            t.addFlow(1, 2, SET, 9, 1, 9);
            t.step(6);
            int would = t.arrivesIn(vehicle, 60);
            checks.due("arrivesIn(" + vehicle + ", 60) answered " + would, true, would > 1);
            t.step(would - 1);
            checks.due("stateOf() ahead of that tick", true, t.stateOf(vehicle) < 2);
            t.step(1);
            checks.due("stateOf() in that tick", 2, t.stateOf(vehicle));
        }
    }

    private void overShutLinks() {
        Turnpike t = Checks.withNodes(3);
        t.addLink(0, 1, 2, 9, 1);
        t.addLink(1, 2, 2, 9, 1);
        t.addFlow(0, 2, SET, 0, 1, 1);
        t.step(1);
        checks.due("arrivesIn(0, 60) over open links", 4, t.arrivesIn(0, 60));
        t.shut(1, true);
        checks.due("arrivesIn(0, 60) over a shut one", -1, t.arrivesIn(0, 60));
        t.shut(1, false);
        checks.due("arrivesIn(0, 60) as it is open again", 4, t.arrivesIn(0, 60));
    }

    /**
     * In the tick 30 the costs are 7 of the link 1 and 4 of the link 2; till the tick 60 they stay so,
     * also when nobody is on the link 1 any more.
     */
    private void byCostsOfLongAgo() {
        Turnpike t = Checks.withNodes(3);
        t.addLink(0, 1, 5, 9, 1);
        t.addLink(1, 2, 2, 9, 1);
        t.addLink(1, 2, 4, 9, 1);
        t.addPhase(2, 0, 30, 30);
        t.addPhase(2, 6, 40, 40);
        t.setRefresh(30);
        t.addFlow(1, 2, SET, 24, 1, 6);
        t.addFlow(0, 2, HEEDING, 32, 1, 1);
        t.step(36);
        checks.due("costOf(1)", 7, t.costOf(1));
        checks.due("onLink(1)", 0, t.onLink(1));
        checks.due("arrivesIn(6, 60) over the link 2", 6, t.arrivesIn(6, 60));
        checks.due("emptyIn(60) over the link 2", 6, t.emptyIn(60));
        t.step(6);
        checks.due("tripOf(6) over the link 2", 9, t.tripOf(6));
        // One that is at the END in the tick 60 goes by the costs that are reckoned in it.
        t.addFlow(0, 2, HEEDING, 55, 1, 1);
        t.step(14);
        checks.due("costOf(1) behind the tick 55", 7, t.costOf(1));
        checks.due("arrivesIn(7, 60) over the link 1", 7, t.arrivesIn(7, 60));
    }

    /** With a refresh of 30 nothing is reckoned: two links that cost 4 are gone over, not one of 5. */
    private void byCostsThatStay() {
        Turnpike t = Checks.withNodes(4);
        t.addLink(0, 1, 2, 9, 1);
        t.addLink(1, 3, 5, 9, 1);
        t.addLink(1, 2, 2, 9, 1);
        t.addLink(2, 3, 2, 9, 1);
        t.setRefresh(30);
        t.addFlow(0, 3, HEEDING, 0, 1, 1);
        t.step(1);
        checks.due("arrivesIn(0, 60) over the links 2 and 3", 6, t.arrivesIn(0, 60));
    }

    /** Slowed to 0 for three ticks, two go in each of the next ones. */
    private void asTheFirstRateIsBack() {
        Turnpike t = Checks.queuedRoad(1, 2, 9);
        t.dropSignal(1);
        t.slow(0, 0, 3);
        for (int vehicle = 0; vehicle < 9; vehicle++) {
            checks.due("arrivesIn(" + vehicle + ", 60)", 4 + vehicle / 2, t.arrivesIn(vehicle, 60));
        }
        checks.due("emptyIn(60)", 8, t.emptyIn(60));
        checks.due("rateOf(0)", 0, t.rateOf(0));
    }

    /** More nodes than flows: the last ones have a signal, and one that waits. */
    private void atTheLastNodes() {
        Turnpike t = Checks.withNodes(5);
        t.addLink(4, 3, 2, 1, 1);
        t.addPhase(3, 0, 6, 6);
        t.addPhase(3, 1, 40, 40);
        t.addFlow(4, 3, SET, 0, 1, 2);
        t.step(2);
        checks.due("arrivesIn(0, 60), at red till the tick 6", 5, t.arrivesIn(0, 60));
        checks.due("arrivesIn(1, 60), which waits for room till then", 7, t.arrivesIn(1, 60));
        checks.due("phaseOf(3) as before", 0, t.phaseOf(3));
        checks.due("phaseTicks(3) as before", 2, t.phaseTicks(3));
    }

    private void promise38Throws() {
        askedOfNoVehicle(38, "arrivesIn(.., 1)", (t, vehicle) -> t.arrivesIn(vehicle, 1));
        promise(38, "Throws `IllegalArgumentException` if ticks is not 1 to 60");
        Turnpike t = some();
        for (int vehicle = 0; vehicle < 4; vehicle++) {
            int asked = vehicle;
            for (int ticks : new int[] {Integer.MIN_VALUE, -1, 0, 61, Integer.MAX_VALUE}) {
                checks.noArgument("arrivesIn(.., " + ticks + ")", t, () -> t.arrivesIn(asked, ticks));
            }
        }
    }

    private void promise39() {
        promise(39, "- `ticks`: how many ticks at most Returns behind how many ticks no vehicle is WAITING or "
                + "ON a link for the first time (0, if none is); -1 if one is behind each of so many.");
        checks.due("emptyIn(1) of a new object", 0, new Turnpike().emptyIn(1));
        Turnpike t = longRoad(2);
        checks.due("emptyIn(60) in 62", -1, t.emptyIn(60));
        t.step(2);
        checks.due("emptyIn(60) in 60", 60, t.emptyIn(60));
        checks.due("emptyIn(59) in 60", -1, t.emptyIn(59));
        t.step(59);
        checks.due("emptyIn(1) in 1", 1, t.emptyIn(1));
        t.step(1);
        checks.due("emptyIn(1) as all have arrived", 0, t.emptyIn(1));
        forTheFirstTime();
        noneIsAsOneComes();
        askedMoreThanOnce();
    }

    /** One comes each 9 ticks and is on its way for 4 ticks: between them none is, more than once. */
    private void forTheFirstTime() {
        Turnpike t = Checks.road(4, 9, 1);
        t.addFlow(0, 1, SET, 0, 9, 3);
        checks.due("emptyIn(60) ahead of all that come", 0, t.emptyIn(60));
        t.step(1);
        checks.due("emptyIn(60) of the first one", 4, t.emptyIn(60));
        checks.due("emptyIn(3) of the first one", -1, t.emptyIn(3));
        t.step(4);
        checks.due("emptyIn(60) between them", 0, t.emptyIn(60));
        Turnpike u = Checks.withNodes(2);
        u.addFlow(0, 1, SET, 0, 1, 1);
        u.step(1);
        checks.due("emptyIn(60) of one that was given up", 0, u.emptyIn(60));
        u.addFlow(0, 1, HEEDING, 1, 1, 1);
        u.step(1);
        checks.due("emptyIn(60) of one that waits for good", -1, u.emptyIn(60));
    }

    /** As the one arrives, the next one comes: behind that tick one is on its way. */
    private void noneIsAsOneComes() {
        Turnpike t = Checks.road(4, 9, 1);
        t.addFlow(0, 1, SET, 0, 4, 3);
        t.step(1);
        checks.due("emptyIn(60) of three one behind the other", 12, t.emptyIn(60));
        checks.due("emptyIn(11)", -1, t.emptyIn(11));
        // One that is given up as it comes is neither WAITING nor ON a link.
        t.addFlow(1, 0, SET, 12, 1, 1);
        checks.due("emptyIn(60) with one to be given up", 12, t.emptyIn(60));
        t.addFlow(1, 0, HEEDING, 12, 1, 1);
        checks.due("emptyIn(60) with one to wait", -1, t.emptyIn(60));
    }

    /** One is on its way till the tick 10, and one comes in the tick 5, which finds another way each time. */
    private void askedMoreThanOnce() {
        Turnpike t = Checks.withNodes(4);
        t.addLink(0, 1, 1, 9, 1);
        t.addLink(0, 1, 20, 9, 1);
        t.addLink(2, 3, 10, 9, 1);
        t.addFlow(2, 3, SET, 0, 1, 1);
        t.addFlow(0, 1, SET, 5, 1, 1);
        t.step(1);
        for (int round = 0; round < 2; round++) {
            checks.due("emptyIn(60) over the short link", 10, t.emptyIn(60));
            checks.due("arrivesIn(0, 60) beside it", 10, t.arrivesIn(0, 60));
            t.shut(0, true);
            checks.due("emptyIn(60) over the long link", 25, t.emptyIn(60));
            t.shut(1, true);
            checks.due("emptyIn(60) as it finds no way", 10, t.emptyIn(60));
            t.shut(0, false);
            t.shut(1, false);
        }
    }

    private void promise39Throws() {
        promise(39, "Throws `IllegalArgumentException` if ticks is not 1 to 60");
        for (Turnpike t : new Turnpike[] {new Turnpike(), some(), full()}) {
            for (int ticks : new int[] {Integer.MIN_VALUE, -1, 0, 61, Integer.MAX_VALUE}) {
                checks.noArgument("emptyIn(" + ticks + ")", t, () -> t.emptyIn(ticks));
            }
        }
    }

    private void promise40() {
        promise(40, "- `link`: a link - `from`: a node - `to`: a node Returns what distance() would tell, if "
                + "the link was SHUT.");
        for (Turnpike t : new Turnpike[] {some(), full()}) {
            t.shut(1, true);
            t.slow(0, 0, 200);
            t.step(5);
            for (int link = 0; link < t.links(); link++) {
                withoutTheLink(t, link);
            }
        }
        Turnpike t = some();
        checks.due("distanceWithout() to the same node", 0, t.distanceWithout(0, 2, 2));
        checks.due("distanceWithout() where there is no way", -1, t.distanceWithout(0, 0, 2));
        checks.due("distanceWithout() of the only link", -1, t.distanceWithout(0, 0, 1));
        checks.due("distanceWithout() of another link", t.distance(0, 1), t.distanceWithout(1, 0, 1));
        promise(40, "Throws `IndexOutOfBoundsException` if there is no such link, or node");
        refusesLinks("distanceWithout(.., 0, 0)", (x, link) -> x.distanceWithout(link, 0, 0));
        refusesNumbers("distanceWithout(0, .., 0)", some(), 3, (x, node) -> x.distanceWithout(0, node, 0));
        refusesNumbers("distanceWithout(0, 0, ..)", some(), 3, (x, node) -> x.distanceWithout(0, 0, node));
        refusesNumbers("distanceWithout(0, .., ..)", full(), 12, (x, node) -> x.distanceWithout(0, node, node));
        refusesNumbers("distanceWithout(23, .., 0)", full(), 12, (x, node) -> x.distanceWithout(23, node, 0));
        takesNumbers("distanceWithout(23, .., ..)", full(), 12, (x, node) -> x.distanceWithout(23, node, node));
    }

    /** What it tells is what distance() tells as the link is shut, and changes nothing. */
    private void withoutTheLink(Turnpike t, int link) {
        int nodes = t.nodes();
        int[] would = new int[nodes * nodes];
        long before = t.digest();
        for (int i = 0; i < would.length; i++) {
            int distance = t.distance(i / nodes, i % nodes);
            would[i] = t.distanceWithout(link, i / nodes, i % nodes);
            checks.due("distance() behind it", distance, t.distance(i / nodes, i % nodes));
        }
        checks.due("digest() behind it", before, t.digest());
        boolean was = t.shut(link, true);
        for (int i = 0; i < would.length; i++) {
            checks.due("distanceWithout(" + link + ", " + i / nodes + ", " + i % nodes + ")",
                    t.distance(i / nodes, i % nodes), would[i]);
        }
        t.shut(link, was);
    }

    private void promise41() {
        promise(41, "Computes a checksum. A number d starts with 58038; for each of the following numbers x, "
                + "d becomes d * 31 + x, which wraps around as a 64-bit integer (whether something is so "
                + "counts 1 or 0):");
        checks.due("digest() of a new object", 58038L * 31 * 31 * 31 * 31 * 31, new Turnpike().digest());
        Turnpike t = new Turnpike();
        t.addNode();
        // 58038 and ten numbers more: no longer within 64 bits.
        BigInteger whole = whole(0, 1, 0, 0, 0, -1, 0, 0, 0, -1);
        checks.due("digest() of a node is greater than 64 bits", true, whole.bitLength() > 64);
        checks.due("digest() of a node", whole.longValue(), t.digest());
        promise(41, "clock(), nodes(), links(), flows(), vehicles(); for each node phaseOf(), phaseTicks(), "
                + "waiting(), and distance() and nextLink() to each node (both, then those to the next "
                + "one); for each link isShut(), rateOf(), costOf(), onLink(), each vehicleAt(), queue(), "
                + "count() of 0 to 3, and turned() onto each link; for each flow ofFlow() of 0 to 5; for "
                + "each vehicle stateOf(), linkOf(), endOf(), linksOf(), tripOf(), delayOf().");
        Turnpike[] all = {new Turnpike(), Checks.withNodes(12), some(), full()};
        for (Turnpike one : all) {
            checks.due("digest() of what is asked", told(one), one.digest());
        }
        Turnpike last = full();
        last.shut(3, true);
        last.slow(4, 0, 9);
        last.step(7);
        checks.due("digest() of what is asked", told(last), last.digest());
        promise(41, "Returns d.");
        checks.due("digest() once more", last.digest(), last.digest());
        checks.due("digest() of the same calls", full().digest(), full().digest());
    }

    private static BigInteger whole(long... numbers) {
        BigInteger d = BigInteger.valueOf(58038);
        for (long x : numbers) {
            d = d.multiply(BigInteger.valueOf(31)).add(BigInteger.valueOf(x));
        }
        return d;
    }

    private static long told(Turnpike t) {
        List<Integer> x = new ArrayList<>(List.of(t.clock(), t.nodes(), t.links(), t.flows(), t.vehicles()));
        for (int node = 0; node < t.nodes(); node++) {
            x.addAll(List.of(t.phaseOf(node), t.phaseTicks(node), t.waiting(node)));
            for (int to = 0; to < t.nodes(); to++) {
                x.addAll(List.of(t.distance(node, to), t.nextLink(node, to)));
            }
        }
        for (int link = 0; link < t.links(); link++) {
            x.addAll(List.of(t.isShut(link) ? 1 : 0, t.rateOf(link), t.costOf(link), t.onLink(link)));
            for (int place = 0; place < t.onLink(link); place++) {
                x.add(t.vehicleAt(link, place));
            }
            x.addAll(List.of(t.queue(link), t.count(link, 0), t.count(link, 1), t.count(link, 2),
                    t.count(link, 3)));
            for (int next = 0; next < t.links(); next++) {
                x.add(t.turned(link, next));
            }
        }
        for (int flow = 0; flow < t.flows(); flow++) {
            for (int what = 0; what <= 5; what++) {
                x.add(t.ofFlow(flow, what));
            }
        }
        for (int v = 0; v < t.vehicles(); v++) {
            x.addAll(List.of(t.stateOf(v), t.linkOf(v), t.endOf(v), t.linksOf(v), t.tripOf(v), t.delayOf(v)));
        }
        return whole(x.stream().mapToLong(Integer::longValue).toArray()).longValue();
    }
}
