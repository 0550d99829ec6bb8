/** Promises 11 to 33: asking the network, vehicles and links. */
final class AskingBoundaries extends Boundaries {
    AskingBoundaries(Checks checks, Document document) {
        super(checks, document);
    }

    @Override
    void run() {
        promises11To14();
        promises15And16();
        promise17();
        promises18And19();
        promise20();
        promise21();
        promises22And23();
        promises24And25();
        promises26And27();
        promises28And29();
        promise30();
        promises31And32();
        promise33();
    }

    private void promises11To14() {
        Turnpike t = new Turnpike();
        promise(11, "Returns the CLOCK.");
        checks.due("clock() of a new object", 0, t.clock());
        t.step(60);
        checks.due("clock()", 60, t.clock());
        t.emptyIn(60);
        checks.due("clock() behind what would be", 60, t.clock());
        promise(12, "Returns how many nodes there are.");
        promiseOfMany(12);
        promise(13, "Returns how many links there are.");
        promiseOfMany(13);
        promise(14, "Returns how many flows there are.");
        promiseOfMany(14);
    }

    private void promiseOfMany(int promise) {
        Turnpike[] objects = {new Turnpike(), Checks.withNodes(2), Checks.road(1, 1, 1), some(), full()};
        int[][] want = {{0, 2, 2, 3, 12}, {0, 0, 1, 2, 24}, {0, 0, 0, 2, 10}};
        for (int i = 0; i < objects.length; i++) {
            Turnpike t = objects[i];
            int got = promise == 12 ? t.nodes() : promise == 13 ? t.links() : t.flows();
            checks.due("how many of the object " + i, want[promise - 12][i], got);
        }
    }

    private void promises15And16() {
        promise(15, "- `link`: a link Returns whether it is SHUT.");
        Turnpike t = full();
        t.shut(23, true);
        checks.due("isShut(23)", true, t.isShut(23));
        checks.due("isShut(22)", false, t.isShut(22));
        t.shut(23, false);
        checks.due("isShut(23) as it is opened", false, t.isShut(23));
        askedOfNoLink(15, "isShut(..)", Turnpike::isShut);
        promise(16, "- `link`: a link Returns its rate as it is.");
        Turnpike u = Checks.road(1, 1, 3);
        checks.due("rateOf(0)", 3, u.rateOf(0));
        for (int rate = 0; rate <= 3; rate++) {
            u.slow(0, rate, 1);
            checks.due("rateOf(0) as it is slowed", rate, u.rateOf(0));
            u.step(1);
            checks.due("rateOf(0) behind the tick", rate, u.rateOf(0));
            u.step(1);
            checks.due("rateOf(0) behind the next one", 3, u.rateOf(0));
        }
        askedOfNoLink(16, "rateOf(..)", Turnpike::rateOf);
    }

    private void promise17() {
        promise(17, "- `link`: a link Returns its COST, as it was reckoned last.");
        Turnpike t = Checks.queuedRoad(4, 2, 5);
        checks.due("costOf(0) of 5 queued", 7, t.costOf(0));
        t.dropSignal(1);
        t.step(1);
        checks.due("costOf(0) as in that tick, ahead of their going", 7, t.costOf(0));
        checks.due("queue(0) of then", 3, t.queue(0));
        t.slow(0, 0, 9);
        checks.due("costOf(0) ahead of the next tick", 7, t.costOf(0));
        t.step(1);
        checks.due("costOf(0) of 3 queued, slowed to 0", 34, t.costOf(0));
        t.shut(0, true);
        t.step(1);
        checks.due("costOf(0) of a shut one", 34, t.costOf(0));
        checks.due("costOf() of a new one", 9, t.costOf(t.addLink(1, 0, 9, 1, 1)));
        askedOfNoLink(17, "costOf(..)", Turnpike::costOf);
    }

    private void promises18And19() {
        promise(18, "- `node`: a node Returns the PHASE that was on in the latest tick; -1 without a SIGNAL, or "
                + "ahead of its first tick.");
        int[] phases = {-1, 0, 0, 1, 2, 2, 2, 0};
        phasesAre(phases, true);
        askedOfNoNode(18, "phaseOf(..)", Turnpike::phaseOf);
        promise(19, "- `node`: a node Returns for how many ticks it has been on; 0 without a SIGNAL, or ahead of "
                + "its first tick.");
        int[] ticks = {0, 1, 2, 1, 1, 2, 3, 1};
        phasesAre(ticks, false);
        askedOfNoNode(19, "phaseTicks(..)", Turnpike::phaseTicks);
    }

    private void phasesAre(int[] want, boolean isPhase) {
        Turnpike t = Checks.withNodes(2);
        checks.due("without a signal", want[0], isPhase ? t.phaseOf(1) : t.phaseTicks(1));
        t.step(1);
        checks.due("without a signal in a tick", want[0], isPhase ? t.phaseOf(1) : t.phaseTicks(1));
        t.addPhase(1, 0, 2, 2);
        t.addPhase(1, 0, 1, 1);
        t.addPhase(1, 0, 3, 3);
        for (int i = 0; i < want.length; i++) {
            checks.due("behind " + i + " ticks", want[i], isPhase ? t.phaseOf(1) : t.phaseTicks(1));
            checks.due("of a node without", want[0], isPhase ? t.phaseOf(0) : t.phaseTicks(0));
            t.step(1);
        }
        t.dropSignal(1);
        checks.due("of a signal that was dropped", want[0], isPhase ? t.phaseOf(1) : t.phaseTicks(1));
    }

    private void promise20() {
        promise(20, "- `from`: a node - `to`: a node Returns the least sum of COSTS of a way, as they were reckoned "
                + "last, without the links that are SHUT now; 0 to the same; -1 without one.");
        checks.due("distance(0, 0) of a node alone", 0, Checks.withNodes(1).distance(0, 0));
        checks.due("distance(0, 1) without links", -1, Checks.withNodes(2).distance(0, 1));
        Turnpike t = Checks.withNodes(3);
        t.addLink(0, 1, 2, 30, 1);
        t.addLink(1, 2, 2, 30, 1);
        t.addLink(0, 2, 20, 30, 1);
        t.addPhase(2, 0, 40, 40);
        t.addFlow(1, 2, SET, 0, 1, 30);
        checks.due("distance(0, 2)", 4, t.distance(0, 2));
        t.setRefresh(20);
        t.step(20);
        checks.due("distance(0, 2) as it was reckoned in the tick 0", 4, t.distance(0, 2));
        t.step(1);
        // In the tick 20 those that came in the ticks 0 to 18 are queued.
        checks.due("distance(1, 2) as it was reckoned in the tick 20", 21, t.distance(1, 2));
        checks.due("distance(0, 2) as it was reckoned in the tick 20", 20, t.distance(0, 2));
        t.shut(2, true);
        checks.due("distance(0, 2) without the link 2", 23, t.distance(0, 2));
        t.shut(1, true);
        checks.due("distance(0, 2) without both", -1, t.distance(0, 2));
        checks.due("distance(2, 2) without both", 0, t.distance(2, 2));
        checks.due("distance(2, 0) against the links", -1, t.distance(2, 0));
        t.shut(2, false);
        checks.due("distance(0, 2) with the link 2 again", 20, t.distance(0, 2));
        askedOfNoNode(20, "distance(.., ..)", (x, node) -> x.distance(node, node));
        refusesNodes("distance(.., 0)", (x, node) -> x.distance(node, 0));
        refusesNodes("distance(0, ..)", (x, node) -> x.distance(0, node));
    }

    private void promise21() {
        promise(21, "- `from`: a node - `to`: a node Returns the link over which that way goes first; -1 without "
                + "one, or to the same.");
        checks.due("nextLink(0, 0) of a node alone", -1, Checks.withNodes(1).nextLink(0, 0));
        checks.due("nextLink(0, 1) without links", -1, Checks.withNodes(2).nextLink(0, 1));
        Turnpike t = full();
        for (int from = 0; from < 12; from++) {
            checks.due("nextLink() to the same", -1, t.nextLink(from, from));
            for (int to = 0; to < 12; to++) {
                checks.due("nextLink(" + from + ", " + to + ")", firstOf(t, from, to), t.nextLink(from, to));
            }
        }
        t.shut(0, true);
        t.shut(1, true);
        checks.due("nextLink() as those that lead away are shut", -1, t.nextLink(0, 5));
        checks.due("distance() as those that lead away are shut", -1, t.distance(0, 5));
        askedOfNoNode(21, "nextLink(.., ..)", (x, node) -> x.nextLink(node, node));
        refusesNodes("nextLink(.., 0)", (x, node) -> x.nextLink(node, 0));
        refusesNodes("nextLink(0, ..)", (x, node) -> x.nextLink(0, node));
    }

    /** Of a full one, where from each node one link leads up and one down. */
    private static int firstOf(Turnpike t, int from, int to) {
        int up = t.costOf(2 * from) + t.distance((from + 1) % 12, to);
        return from == to ? -1 : up == t.distance(from, to) ? 2 * from : 2 * from + 1;
    }

    private void promises22And23() {
        promise(22, "Returns how many vehicles came.");
        Turnpike t = Checks.withNodes(3);
        t.addLink(0, 1, 1, 1, 1);
        t.addFlow(0, 1, SET, 1, 1, 2);
        t.addFlow(0, 2, SET, 1, 1, 2);
        t.addFlow(0, 2, HEEDING, 1, 1, 2);
        int[] came = {0, 3, 6, 6};
        for (int tick = 0; tick < came.length; tick++) {
            checks.due("vehicles() ahead of the tick " + tick, tick == 0 ? 0 : came[tick - 1], t.vehicles());
            t.step(1);
            checks.due("vehicles() behind the tick " + tick, came[tick], t.vehicles());
        }
        checks.due("vehicles() of a full one", 200, full().vehicles());
        promise(23, "- `vehicle`: a vehicle Returns its state, 0 to 3.");
        int[] states = {2, 3, 0, 0, 3, 0};
        for (int vehicle = 0; vehicle < 6; vehicle++) {
            checks.due("stateOf(" + vehicle + ")", states[vehicle], t.stateOf(vehicle));
        }
        checks.due("stateOf(1) of some", 1, some().stateOf(1));
        askedOfNoVehicle(23, "stateOf(..)", Turnpike::stateOf);
    }

    private void promises24And25() {
        promise(24, "- `vehicle`: a vehicle Returns the link on which it is; -1 if it is on none.");
        int[] links = {-1, 0, -1, -1};
        for (int vehicle = 0; vehicle < 4; vehicle++) {
            checks.due("linkOf(" + vehicle + ")", links[vehicle], some().linkOf(vehicle));
        }
        Turnpike t = full();
        for (int link = 0; link < 24; link++) {
            for (int place = 0; place < t.onLink(link); place++) {
                checks.due("linkOf() of one on " + link, link, t.linkOf(t.vehicleAt(link, place)));
            }
        }
        askedOfNoVehicle(24, "linkOf(..)", Turnpike::linkOf);
        promise(25, "- `vehicle`: a vehicle Returns the tick from which on it is at the END of the link on which it "
                + "is; -1 if it is on none.");
        int[] ends = {-1, 4, -1, -1};
        for (int vehicle = 0; vehicle < 4; vehicle++) {
            checks.due("endOf(" + vehicle + ")", ends[vehicle], some().endOf(vehicle));
        }
        Turnpike u = Checks.queuedRoad(20, 1, 2);
        checks.due("endOf(0) of one at the END for long", 20, u.endOf(0));
        checks.due("endOf(1) of one at the END for long", 21, u.endOf(1));
        askedOfNoVehicle(25, "endOf(..)", Turnpike::endOf);
    }

    private void promises26And27() {
        promise(26, "- `vehicle`: a vehicle Returns over how many links it went, that on which it is counted.");
        int[] links = {1, 1, 0, 0};
        for (int vehicle = 0; vehicle < 4; vehicle++) {
            checks.due("linksOf(" + vehicle + ")", links[vehicle], some().linksOf(vehicle));
        }
        askedOfNoVehicle(26, "linksOf(..)", Turnpike::linksOf);
        promise(27, "- `vehicle`: a vehicle - `place`: a number, from 0 Returns the link over which it went as its "
                + "link of this number, that on which it is counted.");
        Turnpike t = Checks.withNodes(4);
        t.addLink(2, 3, 9, 1, 1);
        t.addLink(1, 2, 1, 1, 1);
        t.addLink(0, 1, 1, 1, 1);
        t.addFlow(0, 3, SET, 0, 1, 1);
        for (int went = 1; went <= 3; went++) {
            t.step(1);
            int over = went;
            checks.due("linksOf(0)", went, t.linksOf(0));
            checks.due("linkAt(0, " + (went - 1) + ") on which it is", 3 - went, t.linkAt(0, went - 1));
            checks.due("linkAt(0, 0)", 2, t.linkAt(0, 0));
            checks.noIndex("linkAt(0, " + went + ")", t, () -> t.linkAt(0, over));
        }
        t.step(20);
        checks.due("linksOf(0) of one that arrived", 3, t.linksOf(0));
        checks.due("linkAt(0, 2) of one that arrived", 0, t.linkAt(0, 2));
        upAndDown();
        promise(27, NO_VEHICLE + ", or it went over no such link");
        Turnpike u = full();
        refusesVehicles("linkAt(.., 0)", (x, vehicle) -> {
            if (vehicle < 0 || vehicle >= x.vehicles() || x.linksOf(vehicle) > 0) {
                x.linkAt(vehicle, 0);
            }
        });
        for (int vehicle : new int[] {0, 1, 100, 199}) {
            refusesNumbers("linkAt(" + vehicle + ", ..)", u, u.linksOf(vehicle), (x, place) -> x.linkAt(vehicle, place));
        }
        refusesNumbers("linkAt() of one that waits", some(), 0, (x, place) -> x.linkAt(3, place));
        refusesNumbers("linkAt() of one given up", some(), 0, (x, place) -> x.linkAt(2, place));
    }

    /**
     * A heeding vehicle is on a row of eleven nodes, with a way out at each end. Three wait at red on
     * that of the node 0: it costs 2, but 31 as it is slowed to 0. That of the node 10 costs 20. So the
     * vehicle turns at both ends, goes over twenty links for two calls, and over 4400 in all.
     */
    private void upAndDown() {
        Turnpike t = Checks.withNodes(12);
        for (int i = 0; i < 10; i++) {
            t.addLink(i, i + 1, 1, 1, 1);
        }
        for (int i = 0; i < 10; i++) {
            t.addLink(i + 1, i, 1, 1, 1);
        }
        t.addLink(0, 11, 1, 3, 3);
        t.addLink(10, 11, 20, 1, 1);
        t.addPhase(11, 0, 40, 40);
        t.addFlow(0, 11, SET, 0, 1, 3);
        t.step(10);
        t.addFlow(0, 11, HEEDING, 10, 1, 1);
        for (int round = 0; round < 220; round++) {
            t.slow(20, 0, 10);
            t.step(20);
        }
        checks.due("linksOf(3)", 4400, t.linksOf(3));
        for (int place : new int[] {0, 9, 10, 11, 12, 13, 14, 23, 24, 25, 511, 512, 513, 571, 572, 1023,
            1024, 2047, 2048, 3333, 4398, 4399}) {
            int link = place % 20 < 10 ? place % 20 : 29 - place % 20;
            checks.due("linkAt(3, " + place + ")", link, t.linkAt(3, place));
        }
        checks.noIndex("linkAt(3, 4400)", t, () -> t.linkAt(3, 4400));
    }

    private void promises28And29() {
        Turnpike t = Checks.withNodes(3);
        t.addLink(0, 1, 20, 1, 1);
        t.addLink(1, 2, 5, 1, 1);
        t.addFlow(0, 2, SET, 7, 1, 2);
        t.step(32);
        promise(28, "- `vehicle`: a vehicle Returns how long its trip took; -1 if it has not ARRIVED.");
        checks.due("tripOf(0) at the END of its last link", -1, t.tripOf(0));
        int delay = t.delayOf(0);
        t.step(1);
        checks.due("tripOf(0)", 25, t.tripOf(0));
        int[] trips = {2, -1, -1, -1};
        for (int vehicle = 0; vehicle < 4; vehicle++) {
            checks.due("tripOf(" + vehicle + ") of some", trips[vehicle], some().tripOf(vehicle));
        }
        askedOfNoVehicle(28, "tripOf(..)", Turnpike::tripOf);
        promise(29, "- `vehicle`: a vehicle Returns its DELAY; -1 if it has not ARRIVED.");
        checks.due("delayOf(0) at the END of its last link", -1, delay);
        checks.due("delayOf(0) of one that nothing held up", 0, t.delayOf(0));
        int[] delays = {0, -1, -1, -1};
        for (int vehicle = 0; vehicle < 4; vehicle++) {
            checks.due("delayOf(" + vehicle + ") of some", delays[vehicle], some().delayOf(vehicle));
        }
        t.step(60);
        // It came in the tick 8, and had room in the tick 27.
        checks.due("delayOf(1)", 19, t.delayOf(1));
        askedOfNoVehicle(29, "delayOf(..)", Turnpike::delayOf);
    }

    private void promise30() {
        promise(30, "- `node`: a node Returns how many vehicles are WAITING there.");
        Turnpike t = Checks.road(1, 1, 1);
        t.addPhase(1, 0, 40, 40);
        for (int i = 0; i < 5; i++) {
            t.addFlow(0, 1, HEEDING, 0, 1, 40);
        }
        checks.due("waiting(0) at first", 0, t.waiting(0));
        t.step(1);
        checks.due("waiting(0), less the one that went", 4, t.waiting(0));
        t.step(59);
        checks.due("waiting(0), all but the one that went", 199, t.waiting(0));
        checks.due("waiting(1), where they are to go", 0, t.waiting(1));
        t.dropSignal(1);
        t.step(1);
        checks.due("waiting(0), as the next one went", 198, t.waiting(0));
        askedOfNoNode(30, "waiting(..)", Turnpike::waiting);
    }

    private void promises31And32() {
        promise(31, "- `link`: a link Returns how many vehicles are on it.");
        Turnpike t = Checks.road(2, 30, 1);
        checks.due("onLink(0) of none", 0, t.onLink(0));
        t.addPhase(1, 0, 40, 40);
        t.addFlow(0, 1, SET, 0, 1, 40);
        for (int on = 1; on <= 30; on++) {
            t.step(1);
            checks.due("onLink(0)", on, t.onLink(0));
        }
        t.step(10);
        checks.due("onLink(0) of a full one", 30, t.onLink(0));
        askedOfNoLink(31, "onLink(..)", Turnpike::onLink);
        promise(32, "- `link`: a link - `place`: a place in its row, from 0 Returns the vehicle there.");
        for (int place = 0; place < 30; place++) {
            checks.due("vehicleAt(0, " + place + ")", place, t.vehicleAt(0, place));
        }
        promise(32, NO_LINK + ", or place");
        refusesNumbers("vehicleAt(0, ..)", t, 30, (x, place) -> x.vehicleAt(0, place));
        takesNumbers("vehicleAt(0, ..)", t, 30, (x, place) -> x.vehicleAt(0, place));
        t.dropSignal(1);
        t.step(9);
        checks.due("vehicleAt(0, 0) as nine are gone", 9, t.vehicleAt(0, 0));
        checks.due("vehicleAt(0, 29) as nine came", 38, t.vehicleAt(0, 29));
        t.step(60);
        refusesNumbers("vehicleAt(0, ..)", t, 0, (x, place) -> x.vehicleAt(0, place));
        refusesLinks("vehicleAt(.., 0)", (x, link) -> {
            if (link < 0 || link >= x.links() || x.onLink(link) > 0) {
                x.vehicleAt(link, 0);
            }
        });
    }

    private void promise33() {
        promise(33, "- `link`: a link Returns its QUEUE in the tick that comes, ahead of (e).");
        Turnpike t = Checks.road(3, 30, 2);
        checks.due("queue(0) of none", 0, t.queue(0));
        t.addFlow(0, 1, SET, 0, 1, 2);
        t.step(2);
        checks.due("queue(0) ahead of the tick 2", 0, t.queue(0));
        t.step(1);
        checks.due("queue(0) ahead of the tick 3", 1, t.queue(0));
        t.step(1);
        checks.due("queue(0) ahead of the tick 4", 1, t.queue(0));
        checks.due("count(0, 2), as it is behind (e)", 0, t.count(0, 2));
        t.step(1);
        checks.due("queue(0) ahead of the tick 5", 0, t.queue(0));
        askedOfNoLink(33, "queue(..)", Turnpike::queue);
    }
}
