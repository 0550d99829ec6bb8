/** Promises 1 to 10: the network, and its ticks. */
final class TellingBoundaries extends Boundaries {
    private static final String SAME = "Throws `IllegalArgumentException` if both are the same, ";

    TellingBoundaries(Checks checks, Document document) {
        super(checks, document);
    }

    @Override
    void run() {
        promise1();
        promise2();
        promise3();
        promise3Throws();
        promise4();
        promise4Throws();
        promise5();
        promise6();
        promise7();
        promise8();
        promise8Throws();
        promise9();
        promise9Throws();
        promise10();
    }

    private void promise1() {
        promise(1, "Creates a network without nodes, at the CLOCK 0.");
        Turnpike t = new Turnpike();
        checks.due("nodes()", 0, t.nodes());
        checks.due("clock()", 0, t.clock());
        checks.due("links()", 0, t.links());
        checks.due("flows()", 0, t.flows());
        checks.due("vehicles()", 0, t.vehicles());
        checks.noIndex("phaseOf(0)", t, () -> t.phaseOf(0));
        Turnpike other = full();
        checks.due("digest() beside another one", new Turnpike().digest(), t.digest());
        checks.due("nodes() of that", 12, other.nodes());
    }

    private void promise2() {
        promise(2, "Adds a node.");
        Turnpike t = new Turnpike();
        t.addNode();
        checks.due("nodes()", 1, t.nodes());
        checks.due("phaseOf(0)", -1, t.phaseOf(0));
        checks.due("waiting(0)", 0, t.waiting(0));
        promise(2, "Returns its number.");
        for (int i = 1; i < 12; i++) {
            t.step(1);
            checks.due("addNode()", i, t.addNode());
        }
        promise(2, "Throws `IllegalStateException` if there are 12");
        checks.noState("addNode() as the 13th", t, t::addNode);
        checks.noState("addNode() once more", t, t::addNode);
        checks.due("nodes()", 12, t.nodes());
    }

    private void promise3() {
        promise(3, "Adds a link, not SHUT. - `from`: the node from which it leads - `to`: the node to which it "
                + "leads - `time`: its time - `room`: its room - `rate`: its rate");
        Turnpike t = Checks.withNodes(3);
        t.addLink(2, 1, 20, 30, 3);
        t.addLink(1, 2, 1, 1, 1);
        checks.due("isShut(0)", false, t.isShut(0));
        checks.due("distance(2, 1)", 20, t.distance(2, 1));
        checks.due("distance(1, 2)", 1, t.distance(1, 2));
        checks.due("distance(0, 1)", -1, t.distance(0, 1));
        checks.due("nextLink(2, 1)", 0, t.nextLink(2, 1));
        checks.due("rateOf(0)", 3, t.rateOf(0));
        checks.due("rateOf(1)", 1, t.rateOf(1));
        checks.due("costOf(0)", 20, t.costOf(0));
        checks.due("onLink(0)", 0, t.onLink(0));
        checks.due("count(0, 0)", 0, t.count(0, 0));
        checks.due("turned(0, 1)", 0, t.turned(0, 1));
        promise(3, "Returns its number.");
        for (int i = 2; i < 24; i++) {
            checks.due("addLink()", i, t.addLink(i % 3, (i + 1) % 3, 1 + i % 20, 1 + i, 1 + i % 3));
        }
    }

    private void promise3Throws() {
        Turnpike t = Checks.withNodes(3);
        Turnpike all = full();
        promise(3, NO_NODE);
        for (int node : new int[] {Integer.MIN_VALUE, -1, 3, 12, Integer.MAX_VALUE}) {
            checks.noIndex("addLink() from " + node, t, () -> t.addLink(node, 0, 1, 1, 1));
            checks.noIndex("addLink() to " + node, t, () -> t.addLink(0, node, 1, 1, 1));
            checks.noIndex("addLink() from and to " + node, t, () -> t.addLink(node, node, 0, 0, 0));
        }
        Turnpike none = new Turnpike();
        checks.noIndex("addLink() without nodes", none, () -> none.addLink(0, 1, 1, 1, 1));
        checks.noIndex("addLink() to the node 12, as the 25th", all, () -> all.addLink(0, 12, 1, 1, 1));
        promise(3, SAME + "time is not 1 to 20, room is not 1 to 30, or rate is not 1 to 3");
        for (int wrong : new int[] {Integer.MIN_VALUE, -1, 0, 31, Integer.MAX_VALUE}) {
            checks.noArgument("addLink() of time " + wrong, t, () -> t.addLink(0, 1, wrong, 1, 1));
            checks.noArgument("addLink() of room " + wrong, t, () -> t.addLink(0, 1, 1, wrong, 1));
            checks.noArgument("addLink() of rate " + wrong, t, () -> t.addLink(0, 1, 1, 1, wrong));
        }
        checks.noArgument("addLink() to the same", t, () -> t.addLink(2, 2, 1, 1, 1));
        checks.noArgument("addLink() of time 21", t, () -> t.addLink(0, 1, 21, 1, 1));
        checks.noArgument("addLink() of rate 4", t, () -> t.addLink(0, 1, 1, 1, 4));
        checks.noArgument("addLink() to the same, as the 25th", all, () -> all.addLink(2, 2, 1, 1, 1));
        checks.due("addLink() of the least", 0, t.addLink(0, 1, 1, 1, 1));
        checks.due("addLink() of the greatest", 1, t.addLink(0, 1, 20, 30, 3));
        promise(3, "Throws `IllegalStateException` if there are 24");
        checks.noState("addLink() as the 25th", all, () -> all.addLink(0, 1, 1, 1, 1));
        checks.due("links()", 24, all.links());
    }

    private void promise4() {
        promise(4, "Adds a PHASE to the SIGNAL of a node, which has one from then on. - `node`: the node - "
                + "`links`: its set, as the sum of 2^link - `least`: its least number of ticks - `greatest`: "
                + "its greatest number of ticks");
        Turnpike t = Checks.withNodes(3);
        for (int i = 0; i < 4; i++) {
            t.addLink(0, i % 2 + 1, 1, 9, 1);
        }
        t.addFlow(0, 1, SET, 0, 1, 1);
        t.step(1);
        // The links 0 and 2 lead to the node 1, which has no signal till now.
        t.addPhase(1, 4, 2, 3);
        t.addPhase(1, 1, 1, 1);
        t.step(2);
        checks.due("stateOf(0) as the link 2 is green", 1, t.stateOf(0));
        checks.due("phaseTicks(1) in its least tick", 2, t.phaseTicks(1));
        t.step(1);
        checks.due("phaseOf(1) behind it", 1, t.phaseOf(1));
        checks.due("stateOf(0) as the link 0 is green", 2, t.stateOf(0));
        checks.due("phaseOf(2) without one", -1, t.phaseOf(2));
        promise(4, "Returns its number.");
        checks.due("addPhase() of 2^0 + 2^2", 2, t.addPhase(1, 5, 1, 1));
        checks.due("addPhase() of none", 3, t.addPhase(1, 0, 1, 1));
        checks.due("addPhase() of 2^1 + 2^3", 0, t.addPhase(2, 10, 40, 40));
    }

    private void promise4Throws() {
        askedOfNoNode(4, "addPhase(.., 0, 1, 40)", (t, node) -> t.addPhase(node, 0, 1, 40));
        promise(4, "Throws `IllegalArgumentException` if links is less than 0, there is anything in the set "
                + "that is no link, or a link that does not lead to the node, least is not 1 to 40, or "
                + "greatest is not least to 40");
        Turnpike t = some();
        int[] sets = {-1, Integer.MIN_VALUE, Integer.MIN_VALUE | 1, 2, 3, 4, 5, 1 << 23, 1 << 24, 1 << 30,
            Integer.MAX_VALUE};
        for (int set : sets) {
            checks.noArgument("addPhase(1, " + set + ", 1, 40)", t, () -> t.addPhase(1, set, 1, 40));
        }
        int[][] bounds = {{0, 1}, {-1, 1}, {41, 41}, {1, 41}, {2, 1}, {40, 39}, {1, 0}, {0, 0},
            {Integer.MIN_VALUE, 40}, {1, Integer.MAX_VALUE}, {Integer.MAX_VALUE, Integer.MAX_VALUE}};
        for (int[] b : bounds) {
            checks.noArgument("addPhase(1, 1, " + b[0] + ", " + b[1] + ")", t, () -> t.addPhase(1, 1, b[0], b[1]));
        }
        Turnpike none = Checks.withNodes(1);
        checks.noArgument("addPhase() of a link, where none is", none, () -> none.addPhase(0, 1, 1, 1));
        Turnpike all = full();
        checks.noArgument("addPhase() of least 0, as the 5th", all, () -> all.addPhase(1, 1, 0, 1));
        checks.noArgument("addPhase() of the link 24, as the 5th", all, () -> all.addPhase(1, 1 << 24, 1, 1));
        promise(4, "Throws `IllegalStateException` if there are 4");
        checks.noState("addPhase() as the 5th", all, () -> all.addPhase(1, 1, 1, 1));
        checks.noState("addPhase() as the 5th, of none", all, () -> all.addPhase(1, 0, 40, 40));
        checks.due("addPhase() at another node", 0, all.addPhase(2, 0, 40, 40));
        checks.due("dropSignal() of 4", 4, all.dropSignal(1));
        checks.due("addPhase() as the first one again", 0, all.addPhase(1, 1, 1, 1));
    }

    private void promise5() {
        promise(5, "Takes the SIGNAL of a node away. - `node`: the node");
        Turnpike t = Checks.queuedRoad(1, 1, 2);
        t.addPhase(0, 0, 1, 1);
        checks.due("count(0, 1) at red", 0, t.count(0, 1));
        t.dropSignal(1);
        checks.due("phaseOf(1)", -1, t.phaseOf(1));
        checks.due("phaseTicks(1)", 0, t.phaseTicks(1));
        t.step(1);
        checks.due("count(0, 1) without one", 1, t.count(0, 1));
        checks.due("phaseOf(1)", -1, t.phaseOf(1));
        checks.due("phaseOf(0) of another one", 0, t.phaseOf(0));
        promise(5, "Returns how many PHASES it had; 0 without one.");
        checks.due("dropSignal() once more", 0, t.dropSignal(1));
        for (int phases = 1; phases <= 4; phases++) {
            for (int i = 0; i < phases; i++) {
                t.addPhase(1, i % 2, 1, 1);
            }
            checks.due("dropSignal() of " + phases, phases, t.dropSignal(1));
            checks.due("dropSignal() without one", 0, t.dropSignal(1));
        }
        askedOfNoNode(5, "dropSignal(..)", Turnpike::dropSignal);
    }

    private void promise6() {
        promise(6, "- `refresh`: the REFRESH from now on Returns the one before.");
        Turnpike t = Checks.road(1, 30, 1);
        t.addPhase(1, 0, 40, 40);
        t.addFlow(0, 1, SET, 0, 1, 30);
        checks.due("setRefresh(30)", 1, t.setRefresh(30));
        t.step(10);
        checks.due("costOf(0)", 1, t.costOf(0));
        checks.due("setRefresh(5)", 30, t.setRefresh(5));
        checks.due("costOf(0) is not reckoned at once", 1, t.costOf(0));
        t.step(1);
        checks.due("costOf(0) of the tick 10", 11, t.costOf(0));
        checks.due("setRefresh(1)", 5, t.setRefresh(1));
        checks.due("setRefresh(1) again", 1, t.setRefresh(1));
        t.step(1);
        checks.due("costOf(0) of the tick 11", 12, t.costOf(0));
        promise(6, "Throws `IllegalArgumentException` if refresh is not 1 to 30");
        for (int wrong : new int[] {Integer.MIN_VALUE, -1, 0, 31, Integer.MAX_VALUE}) {
            checks.noArgument("setRefresh(" + wrong + ")", t, () -> t.setRefresh(wrong));
        }
        checks.due("setRefresh(1) behind them", 1, t.setRefresh(1));
    }

    private void promise7() {
        promise(7, "Shuts a link, or opens it. Vehicles that are on it go on. - `link`: the link - `isShut`: "
                + "whether it is SHUT from now on");
        Turnpike t = Checks.road(5, 9, 1);
        t.addFlow(0, 1, SET, 0, 1, 2);
        t.step(2);
        t.shut(0, true);
        checks.due("isShut(0)", true, t.isShut(0));
        checks.due("distance(0, 1)", -1, t.distance(0, 1));
        t.step(5);
        checks.due("stateOf(0), which was on it", 2, t.stateOf(0));
        checks.due("stateOf(1), which was on it", 2, t.stateOf(1));
        promise(7, "Returns whether it was.");
        checks.due("shut() of a shut one", true, t.shut(0, true));
        checks.due("shut() that opens", true, t.shut(0, false));
        checks.due("isShut(0)", false, t.isShut(0));
        checks.due("shut() that opens an open one", false, t.shut(0, false));
        checks.due("shut() of an open one", false, t.shut(0, true));
        askedOfNoLink(7, "shut(.., true)", (x, link) -> x.shut(link, true));
        refusesLinks("shut(.., false)", (x, link) -> x.shut(link, false));
    }

    private void promise8() {
        promise(8, "Slows a link, in place of how it was SLOWED. - `link`: the link - `rate`: its rate - "
                + "`ticks`: for how many ticks, the next one counted");
        Turnpike t = Checks.queuedRoad(1, 2, 29);
        t.dropSignal(1);
        t.slow(0, 3, 200);
        t.step(1);
        checks.due("count(0, 1) at a rate of 3", 3, t.count(0, 1));
        t.slow(0, 1, 1);
        t.step(1);
        checks.due("count(0, 1) at a rate of 1 for one tick", 4, t.count(0, 1));
        t.step(1);
        checks.due("count(0, 1) at the first rate of 2", 6, t.count(0, 1));
        t.slow(0, 1, 2);
        t.step(1);
        t.slow(0, 0, 2);
        t.step(2);
        checks.due("count(0, 1) slowed in place of that", 7, t.count(0, 1));
        t.step(1);
        checks.due("count(0, 1) at the first rate of 2 again", 9, t.count(0, 1));
        promise(8, "Returns the rate that it had.");
        checks.due("slow() of the first rate", 2, t.slow(0, 0, 1));
        checks.due("slow() of a rate of 0", 0, t.slow(0, 3, 1));
        checks.due("slow() of a rate of 3", 3, t.slow(0, 1, 1));
        t.step(1);
        checks.due("slow() behind its last tick", 1, t.slow(0, 3, 1));
        t.step(2);
        checks.due("slow() of the first rate again", 2, t.slow(0, 2, 1));
    }

    private void promise8Throws() {
        askedOfNoLink(8, "slow(.., 1, 1)", (t, link) -> t.slow(link, 1, 1));
        promise(8, "Throws `IllegalArgumentException` if rate is not 0 to 3, or ticks is not 1 to 200");
        Turnpike t = some();
        for (int wrong : new int[] {Integer.MIN_VALUE, -1, 4, Integer.MAX_VALUE}) {
            checks.noArgument("slow(0, " + wrong + ", 1)", t, () -> t.slow(0, wrong, 1));
        }
        for (int wrong : new int[] {Integer.MIN_VALUE, -1, 0, 201, Integer.MAX_VALUE}) {
            checks.noArgument("slow(0, 1, " + wrong + ")", t, () -> t.slow(0, 1, wrong));
        }
        checks.due("slow() of the least", 1, t.slow(0, 0, 1));
        checks.due("slow() of the greatest", 0, t.slow(0, 3, 200));
    }

    private void promise9() {
        promise(9, "Adds a flow. - `from`: the node from which - `to`: the node to which - `kind`: the kind of "
                + "its vehicles - `start`: its start - `period`: its period - `count`: its count");
        Turnpike t = Checks.withNodes(3);
        t.addLink(2, 0, 1, 9, 1);
        t.addFlow(2, 0, SET, 2, 3, 2);
        t.addFlow(1, 0, HEEDING, 1, 1, 1);
        t.addFlow(1, 0, SET, 4, 1, 1);
        int[] came = {0, 1, 2, 2, 3, 4, 4, 4, 4};
        for (int tick = 0; tick < came.length; tick++) {
            t.step(1);
            checks.due("vehicles() in the tick " + tick, came[tick], t.vehicles());
        }
        checks.due("linkAt(1, 0), from the node 2", 0, t.linkAt(1, 0));
        checks.due("stateOf(1), to the node 0", 2, t.stateOf(1));
        checks.due("waiting(1) of the kind 1", 1, t.waiting(1));
        checks.due("stateOf(2) of the kind 0", 3, t.stateOf(2));
        promise(9, "Returns its number.");
        for (int i = 3; i < 10; i++) {
            checks.due("addFlow()", i, t.addFlow(i % 3, (i + 1) % 3, i % 2, 9, 30, 40));
        }
    }

    private void promise9Throws() {
        Turnpike t = some();
        Turnpike all = full();
        promise(9, NO_NODE);
        for (int node : new int[] {Integer.MIN_VALUE, -1, 3, 12, Integer.MAX_VALUE}) {
            checks.noIndex("addFlow() from " + node, t, () -> t.addFlow(node, 0, SET, 3, 1, 1));
            checks.noIndex("addFlow() to " + node, t, () -> t.addFlow(0, node, SET, 3, 1, 1));
            checks.noIndex("addFlow() from and to " + node, t, () -> t.addFlow(node, node, 2, 2, 0, 0));
        }
        checks.noIndex("addFlow() to the node 12, as the 11th", all, () -> all.addFlow(0, 12, SET, 45, 1, 1));
        promise(9, SAME + "kind is not 0 or 1, start is less than the CLOCK, or more than 500 above it, "
                + "period is not 1 to 30, or count is not 1 to 40");
        checks.noArgument("addFlow() to the same", t, () -> t.addFlow(1, 1, SET, 3, 1, 1));
        for (int wrong : new int[] {Integer.MIN_VALUE, -1, 2, Integer.MAX_VALUE}) {
            checks.noArgument("addFlow() of kind " + wrong, t, () -> t.addFlow(0, 1, wrong, 3, 1, 1));
        }
        for (int wrong : new int[] {Integer.MIN_VALUE, -1, 0, 2, 504, Integer.MAX_VALUE}) {
            checks.noArgument("addFlow() from the tick " + wrong, t, () -> t.addFlow(0, 1, SET, wrong, 1, 1));
        }
        for (int wrong : new int[] {Integer.MIN_VALUE, -1, 0, 41, Integer.MAX_VALUE}) {
            checks.noArgument("addFlow() of period " + wrong, t, () -> t.addFlow(0, 1, SET, 3, wrong, 1));
            checks.noArgument("addFlow() of " + wrong, t, () -> t.addFlow(0, 1, SET, 3, 1, wrong));
        }
        checks.noArgument("addFlow() of period 31", t, () -> t.addFlow(0, 1, SET, 3, 31, 1));
        checks.noArgument("addFlow() to the same, as the 11th", all, () -> all.addFlow(1, 1, SET, 45, 1, 1));
        checks.due("addFlow() of the least", 2, t.addFlow(0, 1, SET, 3, 1, 1));
        checks.due("addFlow() of the greatest", 3, t.addFlow(0, 1, HEEDING, 503, 30, 40));
        promise(9, "Throws `IllegalStateException` if there are 10");
        checks.noState("addFlow() as the 11th", all, () -> all.addFlow(0, 1, SET, 45, 1, 1));
        checks.due("flows()", 10, all.flows());
    }

    private void promise10() {
        promise(10, "Lets ticks go by. - `ticks`: how many");
        Turnpike t = Checks.road(1, 1, 1);
        t.addFlow(0, 1, HEEDING, 0, 1, 40);
        t.step(1);
        checks.due("vehicles() behind one", 1, t.vehicles());
        t.step(9);
        checks.due("vehicles() behind ten", 10, t.vehicles());
        Turnpike once = full();
        Turnpike each = full();
        once.step(60);
        for (int i = 0; i < 60; i++) {
            each.step(1);
        }
        checks.due("digest() of 60 ticks at once", each.digest(), once.digest());
        promise(10, "Returns the CLOCK then.");
        checks.due("step(1)", 11, t.step(1));
        checks.due("step(60)", 71, t.step(60));
        promise(10, "Throws `IllegalArgumentException` if ticks is not 1 to 60");
        for (int wrong : new int[] {Integer.MIN_VALUE, -1, 0, 61, Integer.MAX_VALUE}) {
            checks.noArgument("step(" + wrong + ")", t, () -> t.step(wrong));
        }
        checks.due("clock() behind them", 71, t.clock());
    }
}
