/** Promises 1 to 10: a new object, and the calls that tell the network and play it. */
public final class NetworkTest {
    private final Checks checks = new Checks("NetworkTest");

    public static void main(String[] args) {
        NetworkTest test = new NetworkTest();
        test.promise1();
        test.promise2();
        test.promise3();
        test.promise3Edges();
        test.promise4();
        test.promise4Edges();
        test.promise5();
        test.promise6();
        test.promise7();
        test.promise8();
        test.promise8Edges();
        test.promise9();
        test.promise9Edges();
        test.promise10();
        test.checks.end();
    }

    private void promise1() {
        Turnpike t = new Turnpike();
        checks.due("clock() of a new object", 0, t.clock());
        checks.due("nodes() of a new object", 0, t.nodes());
        checks.due("links() of a new object", 0, t.links());
        checks.due("flows() of a new object", 0, t.flows());
        checks.due("vehicles() of a new object", 0, t.vehicles());
        checks.due("setRefresh() of a new object", 1, t.setRefresh(1));
        checks.due("step(60) without nodes", 60, t.step(60));
        Turnpike other = Checks.withNodes(2);
        checks.due("another object has its own nodes", 0, new Turnpike().nodes());
        checks.due("nodes()", 2, other.nodes());
    }

    private void promise2() {
        Turnpike t = new Turnpike();
        for (int i = 0; i < 12; i++) {
            checks.due("addNode()", i, t.addNode());
        }
        checks.noState("addNode() as the 13th", t, t::addNode);
        checks.due("nodes()", 12, t.nodes());
        checks.due("phaseOf() of a new node", -1, t.phaseOf(11));
        checks.due("waiting() at a new node", 0, t.waiting(11));
        checks.due("distance() of a new node to itself", 0, t.distance(11, 11));
        checks.due("distance() of a new node to another one", -1, t.distance(11, 0));
    }

    private void promise3() {
        Turnpike t = Checks.withNodes(3);
        checks.due("addLink()", 0, t.addLink(0, 1, 20, 30, 3));
        checks.due("addLink()", 1, t.addLink(1, 0, 1, 1, 1));
        checks.due("addLink() once more between the same", 2, t.addLink(1, 0, 4, 2, 2));
        checks.due("isShut() of a new link", false, t.isShut(0));
        checks.due("rateOf() of a new link", 3, t.rateOf(0));
        checks.due("costOf() of a new link", 20, t.costOf(0));
        checks.due("distance() over a new link", 20, t.distance(0, 1));
        checks.due("distance() against it", 1, t.distance(1, 0));
        checks.due("distance(0, 2) ahead", -1, t.distance(0, 2));
        t.addLink(0, 2, 5, 1, 1);
        checks.due("distance(0, 2) over a link that came", 5, t.distance(0, 2));
        checks.due("distance(1, 2) over a link that came", 6, t.distance(1, 2));
        t.setRefresh(30);
        t.step(1);
        t.addLink(2, 0, 7, 1, 1);
        t.step(10);
        checks.due("costOf() of a link that came in between", 7, t.costOf(4));
    }

    private void promise3Edges() {
        Turnpike t = Checks.withNodes(2);
        checks.noIndex("addLink from -1", t, () -> t.addLink(-1, 1, 1, 1, 1));
        checks.noIndex("addLink from 2", t, () -> t.addLink(2, 1, 1, 1, 1));
        checks.noIndex("addLink to -1", t, () -> t.addLink(0, -1, 1, 1, 1));
        checks.noIndex("addLink to 2", t, () -> t.addLink(0, 2, 1, 1, 1));
        checks.noIndex("addLink to no node, all else wrong", t, () -> t.addLink(2, 2, 0, 0, 0));
        checks.noArgument("addLink to the same", t, () -> t.addLink(1, 1, 1, 1, 1));
        checks.noArgument("addLink of time 0", t, () -> t.addLink(0, 1, 0, 1, 1));
        checks.noArgument("addLink of time 21", t, () -> t.addLink(0, 1, 21, 1, 1));
        checks.noArgument("addLink of room 0", t, () -> t.addLink(0, 1, 1, 0, 1));
        checks.noArgument("addLink of room 31", t, () -> t.addLink(0, 1, 1, 31, 1));
        checks.noArgument("addLink of rate 0", t, () -> t.addLink(0, 1, 1, 1, 0));
        checks.noArgument("addLink of rate 4", t, () -> t.addLink(0, 1, 1, 1, 4));
        for (int i = 0; i < 24; i++) {
            checks.due("addLink()", i, t.addLink(i % 2, 1 - i % 2, 1, 1, 1));
        }
        checks.noState("addLink() as the 25th", t, () -> t.addLink(0, 1, 1, 1, 1));
        checks.noArgument("addLink() as the 25th, of time 0", t, () -> t.addLink(0, 1, 0, 1, 1));
        checks.noIndex("addLink() as the 25th, to no node", t, () -> t.addLink(0, 2, 1, 1, 1));
        checks.due("links()", 24, t.links());
    }

    private void promise4() {
        Turnpike t = Checks.withNodes(3);
        t.addLink(0, 1, 1, 9, 1);
        t.addLink(2, 1, 1, 9, 1);
        t.addLink(1, 0, 1, 9, 1);
        checks.due("addPhase of both", 0, t.addPhase(1, 3, 1, 40));
        checks.due("addPhase of none", 1, t.addPhase(1, 0, 40, 40));
        checks.due("addPhase of one", 2, t.addPhase(1, 2, 1, 1));
        checks.due("addPhase at another node", 0, t.addPhase(0, 4, 1, 1));
        checks.due("addPhase of the first one", 3, t.addPhase(1, 1, 1, 1));
        checks.noState("addPhase as the 5th", t, () -> t.addPhase(1, 1, 1, 1));
        checks.noArgument("addPhase as the 5th, least 0", t, () -> t.addPhase(1, 1, 0, 1));
        checks.noIndex("addPhase at no node, least 0", t, () -> t.addPhase(3, 1, 0, 1));
    }

    private void promise4Edges() {
        Turnpike t = Checks.withNodes(3);
        t.addLink(0, 1, 1, 9, 1);
        t.addLink(1, 0, 1, 9, 1);
        checks.noIndex("addPhase at -1", t, () -> t.addPhase(-1, 1, 1, 1));
        checks.noIndex("addPhase at 3", t, () -> t.addPhase(3, 0, 1, 1));
        checks.noArgument("addPhase of -1", t, () -> t.addPhase(1, -1, 1, 1));
        checks.noArgument("addPhase of less than 0", t, () -> t.addPhase(1, Integer.MIN_VALUE, 1, 1));
        checks.noArgument("addPhase of a link that leads away", t, () -> t.addPhase(1, 2, 1, 1));
        checks.noArgument("addPhase of a link more", t, () -> t.addPhase(1, 3, 1, 1));
        checks.noArgument("addPhase of no link", t, () -> t.addPhase(1, 4, 1, 1));
        checks.noArgument("addPhase of the link 30", t, () -> t.addPhase(1, 1 << 30, 1, 1));
        checks.noArgument("addPhase of least 0", t, () -> t.addPhase(1, 1, 0, 1));
        checks.noArgument("addPhase of least 41", t, () -> t.addPhase(1, 1, 41, 41));
        checks.noArgument("addPhase of greatest 41", t, () -> t.addPhase(1, 1, 1, 41));
        checks.noArgument("addPhase of greatest below least", t, () -> t.addPhase(1, 1, 5, 4));
        t.step(1);
        checks.due("phaseOf() behind what was refused", -1, t.phaseOf(1));
        checks.due("addPhase()", 0, t.addPhase(1, 1, 40, 40));
        t.step(1);
        checks.due("phaseOf()", 0, t.phaseOf(1));
    }

    private void promise5() {
        Turnpike t = Checks.withNodes(2);
        t.addLink(0, 1, 1, 9, 1);
        checks.due("dropSignal() without one", 0, t.dropSignal(1));
        t.addPhase(1, 0, 40, 40);
        t.addPhase(1, 0, 40, 40);
        t.addFlow(0, 1, 0, 0, 1, 1);
        t.step(5);
        checks.due("stateOf() at red", 1, t.stateOf(0));
        checks.due("dropSignal()", 2, t.dropSignal(1));
        checks.due("phaseOf() without", -1, t.phaseOf(1));
        checks.due("phaseTicks() without", 0, t.phaseTicks(1));
        checks.due("dropSignal() once more", 0, t.dropSignal(1));
        t.step(1);
        checks.due("stateOf() without a signal", 2, t.stateOf(0));
        checks.due("addPhase() anew", 0, t.addPhase(1, 1, 3, 40));
        checks.due("phaseOf() anew", -1, t.phaseOf(1));
        t.step(2);
        checks.due("phaseTicks() anew", 2, t.phaseTicks(1));
        checks.noIndex("dropSignal(-1)", t, () -> t.dropSignal(-1));
        checks.noIndex("dropSignal(2)", t, () -> t.dropSignal(2));
    }

    private void promise6() {
        Turnpike t = Checks.withNodes(2);
        t.addLink(0, 1, 1, 9, 1);
        t.addPhase(1, 0, 40, 40);
        t.addFlow(0, 1, 0, 0, 1, 40);
        checks.noArgument("setRefresh(0)", t, () -> t.setRefresh(0));
        checks.noArgument("setRefresh(31)", t, () -> t.setRefresh(31));
        checks.due("setRefresh(3)", 1, t.setRefresh(3));
        // One vehicle comes onto the link in each tick t, and is at its END in t + 1.
        t.step(3);
        checks.due("costOf() as in tick 0", 1, t.costOf(0));
        t.step(1);
        checks.due("costOf() as in tick 3", 4, t.costOf(0));
        t.step(2);
        checks.due("costOf() as in tick 3, behind tick 5", 4, t.costOf(0));
        t.step(1);
        checks.due("costOf() as in tick 6", 7, t.costOf(0));
        checks.due("setRefresh(30)", 3, t.setRefresh(30));
        checks.due("costOf() is not reckoned by setRefresh", 7, t.costOf(0));
        t.step(1);
        checks.due("costOf() as in tick 6, behind tick 7", 7, t.costOf(0));
        checks.due("setRefresh(1)", 30, t.setRefresh(1));
        t.step(1);
        checks.due("costOf() as in tick 8", 9, t.costOf(0));
        checks.due("setRefresh(1) again", 1, t.setRefresh(1));
    }

    private void promise7() {
        Turnpike t = Checks.withNodes(3);
        t.addLink(0, 1, 1, 9, 1);
        t.addLink(1, 2, 3, 9, 1);
        t.addFlow(0, 2, 0, 0, 5, 2);
        t.step(2);
        checks.due("shut()", false, t.shut(1, true));
        checks.due("shut() once more", true, t.shut(1, true));
        checks.due("distance() over a shut one", -1, t.distance(0, 2));
        t.step(8);
        checks.due("stateOf() of one that is on it goes on", 2, t.stateOf(0));
        checks.due("stateOf() of one that came later", 3, t.stateOf(1));
        checks.due("shut() opens", true, t.shut(1, false));
        checks.due("shut() opens once more", false, t.shut(1, false));
        checks.due("distance() over an open one", 4, t.distance(0, 2));
        checks.noIndex("shut(-1)", t, () -> t.shut(-1, true));
        checks.noIndex("shut(2)", t, () -> t.shut(2, true));
    }

    private void promise8() {
        Turnpike t = Checks.withNodes(2);
        t.addLink(0, 1, 1, 9, 2);
        checks.due("slow()", 2, t.slow(0, 0, 1));
        checks.due("rateOf()", 0, t.rateOf(0));
        t.step(1);
        checks.due("rateOf() behind its last tick", 0, t.rateOf(0));
        checks.due("slow() in place of it", 0, t.slow(0, 3, 3));
        t.step(1);
        checks.due("slow() in place of that", 3, t.slow(0, 1, 2));
        t.step(2);
        checks.due("rateOf() behind its last tick", 1, t.rateOf(0));
        t.step(1);
        checks.due("rateOf() in the tick behind it", 2, t.rateOf(0));
        t.step(60);
        checks.due("rateOf() for good", 2, t.rateOf(0));
        t.slow(0, 1, 200);
        t.step(60);
        t.step(60);
        t.step(60);
        t.step(20);
        checks.due("rateOf() behind 200 ticks", 1, t.rateOf(0));
        t.step(1);
        checks.due("rateOf() behind 201 ticks", 2, t.rateOf(0));
    }

    private void promise8Edges() {
        Turnpike t = Checks.withNodes(2);
        t.addLink(0, 1, 1, 9, 2);
        checks.noIndex("slow(-1)", t, () -> t.slow(-1, 1, 1));
        checks.noIndex("slow(1), all else wrong", t, () -> t.slow(1, 4, 0));
        checks.noArgument("slow of rate -1", t, () -> t.slow(0, -1, 1));
        checks.noArgument("slow of rate 4", t, () -> t.slow(0, 4, 1));
        checks.noArgument("slow for 0 ticks", t, () -> t.slow(0, 1, 0));
        checks.noArgument("slow for 201 ticks", t, () -> t.slow(0, 1, 201));
        checks.due("rateOf() behind what was refused", 2, t.rateOf(0));
        // A rate of 3 for one tick: three go at once in it, one in the tick behind it.
        Turnpike u = Checks.withNodes(2);
        u.addLink(0, 1, 1, 9, 1);
        u.addPhase(1, 0, 40, 40);
        u.addFlow(0, 1, 0, 0, 1, 6);
        u.step(8);
        u.dropSignal(1);
        u.slow(0, 3, 1);
        u.step(1);
        checks.due("count(0, 1) of a rate of 3", 3, u.count(0, 1));
        u.step(1);
        checks.due("count(0, 1) of the first rate again", 4, u.count(0, 1));
        u.slow(0, 0, 2);
        u.step(2);
        checks.due("count(0, 1) of a rate of 0", 4, u.count(0, 1));
        u.step(1);
        checks.due("count(0, 1) of the first rate again", 5, u.count(0, 1));
    }

    private void promise9() {
        Turnpike t = Checks.withNodes(3);
        t.addLink(0, 1, 1, 9, 3);
        t.step(4);
        checks.due("addFlow()", 0, t.addFlow(0, 1, 0, 4, 3, 2));
        checks.due("addFlow()", 1, t.addFlow(0, 1, 1, 5, 1, 40));
        checks.due("addFlow() where there is no way", 2, t.addFlow(1, 2, 0, 504, 30, 1));
        t.step(1);
        checks.due("ofFlow(0, 0) in its start", 1, t.ofFlow(0, 0));
        checks.due("ofFlow(1, 0) ahead of its start", 0, t.ofFlow(1, 0));
        t.step(2);
        checks.due("ofFlow(0, 0) ahead of its period", 1, t.ofFlow(0, 0));
        checks.due("ofFlow(1, 0) of period 1", 2, t.ofFlow(1, 0));
        t.step(1);
        checks.due("ofFlow(0, 0) with its period", 2, t.ofFlow(0, 0));
        t.step(60);
        checks.due("ofFlow(0, 0) of 2", 2, t.ofFlow(0, 0));
        checks.due("ofFlow(1, 0) of 40", 40, t.ofFlow(1, 0));
        for (int i = 0; i < 7; i++) {
            t.step(60);
        }
        t.step(16);
        checks.due("clock()", 504, t.clock());
        checks.due("ofFlow(2, 0) ahead", 0, t.ofFlow(2, 0));
        t.step(1);
        checks.due("ofFlow(2, 0)", 1, t.ofFlow(2, 0));
    }

    private void promise9Edges() {
        Turnpike t = Checks.withNodes(2);
        t.step(7);
        checks.noIndex("addFlow from -1", t, () -> t.addFlow(-1, 1, 0, 7, 1, 1));
        checks.noIndex("addFlow from 2", t, () -> t.addFlow(2, 1, 0, 7, 1, 1));
        checks.noIndex("addFlow to -1", t, () -> t.addFlow(0, -1, 0, 7, 1, 1));
        checks.noIndex("addFlow to 2, all else wrong", t, () -> t.addFlow(0, 2, 2, 0, 0, 0));
        checks.noArgument("addFlow to the same", t, () -> t.addFlow(1, 1, 0, 7, 1, 1));
        checks.noArgument("addFlow of kind -1", t, () -> t.addFlow(0, 1, -1, 7, 1, 1));
        checks.noArgument("addFlow of kind 2", t, () -> t.addFlow(0, 1, 2, 7, 1, 1));
        checks.noArgument("addFlow from 6", t, () -> t.addFlow(0, 1, 0, 6, 1, 1));
        checks.noArgument("addFlow from 508", t, () -> t.addFlow(0, 1, 0, 508, 1, 1));
        checks.noArgument("addFlow of period 0", t, () -> t.addFlow(0, 1, 0, 7, 0, 1));
        checks.noArgument("addFlow of period 31", t, () -> t.addFlow(0, 1, 0, 7, 31, 1));
        checks.noArgument("addFlow of 0", t, () -> t.addFlow(0, 1, 0, 7, 1, 0));
        checks.noArgument("addFlow of 41", t, () -> t.addFlow(0, 1, 0, 7, 1, 41));
        for (int i = 0; i < 10; i++) {
            checks.due("addFlow()", i, t.addFlow(0, 1, 1, i < 5 ? 7 : 507, 30, 40));
        }
        checks.noState("addFlow() as the 11th", t, () -> t.addFlow(0, 1, 0, 7, 1, 1));
        checks.noArgument("addFlow() as the 11th, of 0", t, () -> t.addFlow(0, 1, 0, 7, 1, 0));
        checks.noIndex("addFlow() as the 11th, to no node", t, () -> t.addFlow(0, 2, 0, 7, 1, 1));
        checks.due("flows()", 10, t.flows());
    }

    private void promise10() {
        Turnpike t = new Turnpike();
        checks.noArgument("step(0)", t, () -> t.step(0));
        checks.noArgument("step(-1)", t, () -> t.step(-1));
        checks.noArgument("step(61)", t, () -> t.step(61));
        checks.due("step(1)", 1, t.step(1));
        checks.due("step(60)", 61, t.step(60));
        checks.due("step(2)", 63, t.step(2));
    }
}
