/** How long an object is used; Terms, 1: the network. */
final class NetworkBoundaries extends Boundaries {
    private static final int ALL_24 = (1 << 24) - 1;

    NetworkBoundaries(Checks checks, Document document) {
        super(checks, document);
    }

    @Override
    void run() {
        calls();
        numbers();
        clock();
        nodes();
        links();
        times();
        rooms();
        rates();
        shutAndSlowed();
        phases();
        phaseSets();
        phaseTicks();
        green();
    }

    /** The last call comes behind more ticks than any other use lets go by. */
    private void calls() {
        whatItIs("An object is used for at most 512 calls after it has been made; what later calls answer is "
                + "free.");
        Turnpike t = new Turnpike();
        t.addNode();
        t.addNode();
        t.addLink(0, 1, 20, 30, 3);
        t.addLink(1, 0, 1, 1, 1);
        for (int i = 0; i < 504; i++) {
            t.step(60);
        }
        checks.due("addFlow() as the 509th call", 0, t.addFlow(0, 1, HEEDING, 30240, 1, 40));
        checks.due("step(60) as the 510th call", 30300, t.step(60));
        checks.due("arrivesIn() as the 511th call", 0, t.arrivesIn(39, 60));
        checks.due("step(60) as the 512th call", 30360, t.step(60));
    }

    private void numbers() {
        terms("All numbers are whole, if nothing else is said. / is cut towards 0.");
        Turnpike t = Checks.queuedRoad(1, 3, 5);
        checks.due("costOf() of 5 queued at a rate of 3: 1, and 1 more", 3, t.costOf(0));
        Turnpike u = Checks.queuedRoad(1, 3, 2);
        checks.due("costOf() of 2 queued at a rate of 3: 0, and 1 more", 2, u.costOf(0));
    }

    private void clock() {
        terms("The CLOCK is 0 at first.");
        Turnpike t = Checks.withNodes(2);
        checks.due("clock()", 0, t.clock());
        checks.noArgument("addFlow() from -1", t, () -> t.addFlow(0, 1, HEEDING, -1, 1, 1));
        checks.noArgument("addFlow() from 501", t, () -> t.addFlow(0, 1, HEEDING, 501, 1, 1));
        checks.due("addFlow() from 0", 0, t.addFlow(0, 1, HEEDING, 0, 1, 1));
        checks.due("addFlow() from 500", 1, t.addFlow(0, 1, HEEDING, 500, 1, 1));
        t.step(1);
        checks.due("vehicles() behind the tick 0", 1, t.vehicles());
    }

    private void nodes() {
        terms("1 THE NETWORK. At most 12 NODES, numbered from 0.");
        Turnpike t = new Turnpike();
        for (int i = 0; i < 12; i++) {
            checks.due("addNode()", i, t.addNode());
        }
        checks.noState("addNode() as the 13th", t, t::addNode);
        checks.due("nodes()", 12, t.nodes());
        // The last one is as good as the first one.
        t.addLink(11, 0, 2, 1, 1);
        t.addLink(0, 11, 3, 1, 1);
        t.addPhase(11, 2, 1, 40);
        t.addFlow(11, 0, SET, 0, 1, 2);
        t.addFlow(0, 11, HEEDING, 0, 1, 1);
        t.step(2);
        checks.due("waiting(11)", 1, t.waiting(11));
        checks.due("phaseOf(11)", 0, t.phaseOf(11));
        checks.due("distance(11, 0)", 2, t.distance(11, 0));
        checks.due("distance(0, 11)", 3, t.distance(0, 11));
        t.step(3);
        checks.due("tripOf() from the last one", 2, t.tripOf(0));
        checks.due("tripOf() to the last one", 3, t.tripOf(1));
        checks.due("tripOf() of the one that waited", 3, t.tripOf(2));
    }

    private void links() {
        terms("At most 24 LINKS, numbered from 0: each leads from a node to another one,");
        Turnpike t = Checks.withNodes(3);
        for (int i = 0; i < 23; i++) {
            checks.due("addLink()", i, t.addLink(1, 0, 1, 1, 1));
        }
        checks.noArgument("addLink() to the same node", t, () -> t.addLink(2, 2, 1, 1, 1));
        checks.due("addLink() as the 24th", 23, t.addLink(0, 2, 2, 1, 1));
        checks.noState("addLink() as the 25th", t, () -> t.addLink(0, 2, 2, 1, 1));
        checks.due("links()", 24, t.links());
        checks.due("distance() along them", 3, t.distance(1, 2));
        checks.due("distance() against them", -1, t.distance(2, 1));
        // The last one is as good as the first one.
        t.addPhase(2, 1 << 23, 1, 40);
        t.addFlow(1, 2, SET, 0, 1, 1);
        t.step(2);
        checks.due("linkOf(0)", 23, t.linkOf(0));
        checks.due("turned(0, 23)", 1, t.turned(0, 23));
        checks.due("turned(23, 0)", 0, t.turned(23, 0));
        checks.due("turned(23, 23)", 0, t.turned(23, 23));
        checks.noIndex("turned(0, 24)", t, () -> t.turned(0, 24));
        t.step(2);
        checks.due("tripOf(0)", 3, t.tripOf(0));
        checks.due("count(23, 1)", 1, t.count(23, 1));
    }

    private void times() {
        terms("and has a time (1 to 20 ticks),");
        for (int time = 1; time <= 20; time++) {
            Turnpike t = Checks.road(time, 1, 1);
            t.addFlow(0, 1, SET, 0, 1, 1);
            Checks.step(t, time);
            checks.due("stateOf() behind " + time + " ticks", 1, t.stateOf(0));
            t.step(1);
            checks.due("stateOf() in the tick " + time, 2, t.stateOf(0));
            checks.due("tripOf() over a time of " + time, time, t.tripOf(0));
        }
        Turnpike t = Checks.withNodes(2);
        checks.noArgument("addLink() of time 0", t, () -> t.addLink(0, 1, 0, 1, 1));
        checks.noArgument("addLink() of time 21", t, () -> t.addLink(0, 1, 21, 1, 1));
    }

    private void rooms() {
        terms("room (1 to 30 vehicles),");
        for (int room = 1; room <= 30; room++) {
            Turnpike t = Checks.road(1, room, 1);
            t.addPhase(1, 0, 40, 40);
            t.addFlow(0, 1, SET, 0, 1, 40);
            Checks.step(t, room);
            checks.due("onLink() as it becomes full", room, t.onLink(0));
            checks.due("waiting() as it becomes full", 0, t.waiting(0));
            t.step(60);
            checks.due("onLink() with room for " + room, room, t.onLink(0));
            checks.due("waiting() with room for " + room, 40 - room, t.waiting(0));
            checks.due("vehicleAt() the last place", room - 1, t.vehicleAt(0, room - 1));
            int places = room;
            checks.noIndex("vehicleAt() behind it", t, () -> t.vehicleAt(0, places));
        }
        Turnpike t = Checks.withNodes(2);
        checks.noArgument("addLink() of room 0", t, () -> t.addLink(0, 1, 1, 0, 1));
        checks.noArgument("addLink() of room 31", t, () -> t.addLink(0, 1, 1, 31, 1));
    }

    private void rates() {
        terms("and a rate (1 to 3 vehicles in a tick).");
        for (int rate = 1; rate <= 3; rate++) {
            Turnpike t = Checks.queuedRoad(1, rate, 7);
            t.dropSignal(1);
            t.step(1);
            checks.due("count(0, 1) in a tick at a rate of " + rate, rate, t.count(0, 1));
            t.step(1);
            checks.due("count(0, 1) in two ticks at a rate of " + rate, 2 * rate, t.count(0, 1));
        }
        Turnpike t = Checks.withNodes(2);
        checks.noArgument("addLink() of rate 0", t, () -> t.addLink(0, 1, 1, 1, 0));
        checks.noArgument("addLink() of rate 4", t, () -> t.addLink(0, 1, 1, 1, 4));
    }

    private void shutAndSlowed() {
        terms("A link can be SHUT, and can be SLOWED: then its rate is another one (0 to 3) for a "
                + "number of ticks.");
        for (int rate = 0; rate <= 3; rate++) {
            Turnpike t = Checks.queuedRoad(1, 2, 9);
            t.dropSignal(1);
            t.slow(0, rate, 2);
            checks.due("isShut() of a slowed one", false, t.isShut(0));
            t.shut(0, true);
            checks.due("rateOf() of a slowed one that is shut", rate, t.rateOf(0));
            t.step(1);
            checks.due("count(0, 1) slowed to " + rate, rate, t.count(0, 1));
            t.step(1);
            checks.due("count(0, 1) slowed to " + rate + " for two ticks", 2 * rate, t.count(0, 1));
            t.step(1);
            checks.due("count(0, 1) of the first rate", 2 * rate + 2, t.count(0, 1));
            checks.due("isShut() behind it", true, t.isShut(0));
        }
        Turnpike t = Checks.road(1, 1, 1);
        checks.noArgument("slow() to -1", t, () -> t.slow(0, -1, 1));
        checks.noArgument("slow() to 4", t, () -> t.slow(0, 4, 1));
    }

    private void phases() {
        terms("A node can have a SIGNAL: a row of 1 to 4 PHASES, numbered from 0,");
        for (int phases = 1; phases <= 4; phases++) {
            Turnpike t = Checks.withNodes(1);
            checks.due("phaseOf() without one", -1, t.phaseOf(0));
            for (int i = 0; i < phases; i++) {
                checks.due("addPhase()", i, t.addPhase(0, 0, 1, 1));
            }
            for (int tick = 0; tick < 9; tick++) {
                t.step(1);
                checks.due("phaseOf() of " + phases + " in the tick " + tick, tick % phases, t.phaseOf(0));
                checks.due("phaseTicks()", 1, t.phaseTicks(0));
            }
            checks.due("dropSignal()", phases, t.dropSignal(0));
        }
        Turnpike t = Checks.withNodes(2);
        for (int i = 0; i < 4; i++) {
            t.addPhase(0, 0, 1, 1);
        }
        checks.noState("addPhase() as the 5th", t, () -> t.addPhase(0, 0, 1, 1));
        checks.due("dropSignal() behind that", 4, t.dropSignal(0));
    }

    private void phaseSets() {
        terms("each with a set of links that lead to the node,");
        Turnpike t = Checks.withNodes(2);
        for (int i = 0; i < 24; i++) {
            t.addLink(1, 0, 1, 1, 1);
        }
        checks.due("addPhase() of all 24", 0, t.addPhase(0, ALL_24, 1, 40));
        checks.noArgument("addPhase() of 25", t, () -> t.addPhase(0, ALL_24 | 1 << 24, 1, 40));
        checks.noArgument("addPhase() of those that lead away", t, () -> t.addPhase(1, ALL_24, 1, 40));
        checks.due("addPhase() of the last one", 1, t.addPhase(0, 1 << 23, 1, 40));
        checks.due("addPhase() of none", 2, t.addPhase(0, 0, 1, 40));
        t.dropSignal(0);
        t.addPhase(0, ALL_24, 1, 40);
        for (int i = 0; i < 24; i++) {
            t.shut(i, true);
        }
        t.addFlow(1, 0, SET, 0, 2, 24);
        for (int i = 0; i < 24; i++) {
            t.shut(i, false);
            t.step(2);
            checks.due("count(" + i + ", 1), as it is green", 1, t.count(i, 1));
            t.shut(i, true);
        }
    }

    private void phaseTicks() {
        terms("a least and a greatest number of ticks (1 to 40).");
        int[][] bounds = {{1, 1}, {1, 40}, {40, 40}, {39, 40}, {20, 20}};
        for (int[] b : bounds) {
            Turnpike t = Checks.withNodes(1);
            checks.due("addPhase()", 0, t.addPhase(0, 0, b[0], b[1]));
            t.addPhase(0, 0, 40, 40);
            t.step(b[0]);
            checks.due("phaseOf() in its least tick", 0, t.phaseOf(0));
            checks.due("phaseTicks() in its least tick", b[0], t.phaseTicks(0));
            t.step(1);
            checks.due("phaseOf() without a queue behind it", 1, t.phaseOf(0));
        }
        int[][] wrong = {{0, 1}, {0, 0}, {-1, 40}, {41, 41}, {1, 41}, {40, 39}, {2, 1}, {1, 0}};
        Turnpike t = Checks.withNodes(1);
        for (int[] w : wrong) {
            checks.noArgument("addPhase() of " + w[0] + " to " + w[1], t, () -> t.addPhase(0, 0, w[0], w[1]));
        }
    }

    private void green() {
        terms("A link that leads to a node without a SIGNAL is always GREEN; one that leads to a node "
                + "with one is GREEN, if it is in the set of the PHASE that is on.");
        Turnpike t = Checks.withNodes(4);
        t.addLink(0, 2, 1, 9, 1);
        t.addLink(1, 2, 1, 9, 1);
        t.addLink(2, 3, 1, 9, 1);
        // The node 0 has one too, which holds nothing up that goes away from there.
        t.addPhase(0, 0, 40, 40);
        t.addPhase(2, 1, 1, 1);
        t.addPhase(2, 2, 1, 1);
        t.addFlow(0, 3, SET, 0, 1, 1);
        t.addFlow(1, 3, SET, 0, 1, 1);
        t.step(2);
        checks.due("linkOf(1) in the phase 1", 2, t.linkOf(1));
        checks.due("linkOf(0) in the phase 1", 0, t.linkOf(0));
        t.step(1);
        checks.due("linkOf(0) in the phase 0", 2, t.linkOf(0));
        checks.due("tripOf(1) to a node without one", 2, t.tripOf(1));
        t.step(1);
        checks.due("tripOf(0) to a node without one", 3, t.tripOf(0));
    }
}
