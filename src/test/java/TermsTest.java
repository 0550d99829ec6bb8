/** What the Terms say of ways, costs and the order within a tick, in small networks. */
public final class TermsTest {
    private static final int SET = 0;
    private static final int HEEDING = 1;

    private final Checks checks = new Checks("TermsTest");

    public static void main(String[] args) {
        TermsTest test = new TermsTest();
        test.linksTakeTurnsAtBeingFirst();
        test.firstRateIsBackAheadOfCosts();
        test.costsAreReckonedAheadOfThoseThatCome();
        test.flowsBringInTheirOrder();
        test.signalsAreAheadOfDriving();
        test.queueKeepsAPhaseOn();
        test.linksAreAheadOfWaiting();
        test.onlyOneWaitingGoesInATick();
        test.rateIsForATick();
        test.firstVehicleKeepsBackTheNext();
        test.setVehiclesKeepTheirWay();
        test.heedingVehiclesChooseAgain();
        test.heedingVehiclesGoBack();
        test.setVehiclesWaitForAShutLink();
        test.newLinksAreRedAtASignal();
        test.signalDoesNotHoldThoseThatWait();
        test.refreshKeepsCosts();
        test.longestWay();
        test.signalAtTheFirstNode();
        test.checks.end();
    }

    /** Two links lead to one that has room for one: in tick 1 the link 1 is first. */
    private void linksTakeTurnsAtBeingFirst() {
        Turnpike t = Checks.withNodes(4);
        t.addLink(0, 2, 1, 9, 1);
        t.addLink(1, 2, 1, 9, 1);
        t.addLink(2, 3, 1, 1, 1);
        t.addFlow(0, 3, HEEDING, 0, 1, 1);
        t.addFlow(1, 3, SET, 0, 1, 1);
        t.step(2);
        checks.due("linkOf(0) in tick 1", 0, t.linkOf(0));
        checks.due("linkOf(1) in tick 1", 2, t.linkOf(1));
        // In tick 2 the link 2 is first, and makes room for the link 0 behind it.
        t.step(1);
        checks.due("stateOf(1) in tick 2", 2, t.stateOf(1));
        checks.due("linkOf(0) in tick 2", 2, t.linkOf(0));
        t.step(1);
        checks.due("tripOf(0)", 3, t.tripOf(0));
        checks.due("tripOf(1)", 2, t.tripOf(1));
        // In tick 6 the link 0 is first, and finds no room yet; the link 2 makes it behind it.
        Turnpike u = Checks.withNodes(3);
        u.addLink(0, 1, 1, 9, 1);
        u.addLink(1, 2, 1, 1, 1);
        u.addFlow(0, 2, SET, 3, 1, 2);
        u.step(6);
        checks.due("linkOf(0) in tick 5", -1, u.linkOf(0));
        checks.due("linkOf(1) in tick 5", 1, u.linkOf(1));
        Turnpike w = Checks.withNodes(3);
        w.addLink(0, 1, 1, 9, 1);
        w.addLink(1, 2, 1, 1, 1);
        w.addFlow(0, 2, SET, 4, 1, 2);
        w.step(7);
        checks.due("linkOf(0) in tick 6", -1, w.linkOf(0));
        checks.due("linkOf(1) in tick 6", 0, w.linkOf(1));
        w.step(1);
        checks.due("linkOf(1) in tick 7", 1, w.linkOf(1));
    }

    private void firstRateIsBackAheadOfCosts() {
        Turnpike t = Checks.withNodes(2);
        t.addLink(0, 1, 1, 9, 2);
        t.addPhase(1, 0, 40, 40);
        t.addFlow(0, 1, SET, 0, 1, 3);
        t.step(5);
        t.slow(0, 0, 1);
        t.step(1);
        checks.due("costOf(0) with a rate of 0", 31, t.costOf(0));
        t.step(1);
        checks.due("costOf(0) with its first rate", 3, t.costOf(0));
    }

    private void costsAreReckonedAheadOfThoseThatCome() {
        Turnpike t = Checks.withNodes(2);
        t.addLink(0, 1, 1, 9, 1);
        t.addLink(0, 1, 2, 9, 1);
        t.addPhase(1, 0, 40, 40);
        t.addFlow(0, 1, SET, 0, 1, 5);
        // Costs of the link 0 in the ticks 0 to 4: 1, 2, 3 then those of the link 1 as well.
        t.step(5);
        checks.due("linkAt(0, 0) at the costs 1 and 2", 0, t.linkAt(0, 0));
        checks.due("linkAt(1, 0) at the costs 2 and 2", 0, t.linkAt(1, 0));
        checks.due("linkAt(2, 0) at the costs 3 and 2", 1, t.linkAt(2, 0));
        checks.due("linkAt(3, 0) at the costs 3 and 2", 1, t.linkAt(3, 0));
        checks.due("linkAt(4, 0) at the costs 3 and 3", 0, t.linkAt(4, 0));
    }

    private void flowsBringInTheirOrder() {
        Turnpike t = Checks.withNodes(2);
        t.addLink(0, 1, 5, 9, 1);
        t.addFlow(0, 1, SET, 0, 2, 3);
        t.addFlow(0, 1, HEEDING, 0, 1, 3);
        t.step(5);
        checks.due("vehicles()", 6, t.vehicles());
        checks.due("ofFlow(0, 0)", 3, t.ofFlow(0, 0));
        for (int place = 0; place < 5; place++) {
            checks.due("vehicleAt(0, " + place + ")", place, t.vehicleAt(0, place));
        }
    }

    private void signalsAreAheadOfDriving() {
        Turnpike t = Checks.withNodes(2);
        t.addLink(0, 1, 1, 9, 1);
        t.addPhase(1, 0, 2, 2);
        t.addPhase(1, 1, 1, 1);
        t.addFlow(0, 1, SET, 0, 1, 4);
        // Red in the ticks 0 and 1, green in the tick 2, red in 3 and 4, green in 5.
        t.step(2);
        checks.due("count(0, 1) behind tick 1", 0, t.count(0, 1));
        t.step(1);
        checks.due("count(0, 1) behind tick 2", 1, t.count(0, 1));
        t.step(2);
        checks.due("count(0, 1) behind tick 4", 1, t.count(0, 1));
        t.step(1);
        checks.due("count(0, 1) behind tick 5", 2, t.count(0, 1));
    }

    /** The queue counts as it is ahead of (e), also if it is gone behind it. */
    private void queueKeepsAPhaseOn() {
        Turnpike t = Checks.withNodes(2);
        t.addLink(0, 1, 1, 9, 1);
        t.addPhase(1, 1, 1, 5);
        t.addPhase(1, 0, 9, 9);
        t.addFlow(0, 1, SET, 0, 1, 3);
        t.step(4);
        checks.due("phaseOf(1) with a queue in each tick", 0, t.phaseOf(1));
        checks.due("phaseTicks(1)", 4, t.phaseTicks(1));
        checks.due("count(0, 2) of queues that are gone at once", 0, t.count(0, 2));
        t.step(1);
        checks.due("phaseOf(1) without", 1, t.phaseOf(1));
        checks.due("phaseTicks(1)", 1, t.phaseTicks(1));
    }

    private void linksAreAheadOfWaiting() {
        Turnpike t = Checks.withNodes(3);
        t.addLink(0, 1, 1, 9, 1);
        t.addLink(1, 2, 1, 1, 1);
        t.addFlow(0, 2, SET, 0, 1, 1);
        t.addFlow(1, 2, SET, 1, 1, 1);
        t.step(2);
        checks.due("linkOf(0), from a link", 1, t.linkOf(0));
        checks.due("linkOf(1), that waits", -1, t.linkOf(1));
        t.step(1);
        checks.due("stateOf(0)", 2, t.stateOf(0));
        checks.due("linkOf(1), as there is room", 1, t.linkOf(1));
        checks.due("endOf(1)", 3, t.endOf(1));
    }

    private void onlyOneWaitingGoesInATick() {
        Turnpike t = Checks.withNodes(3);
        t.addLink(0, 1, 5, 9, 3);
        t.addLink(0, 2, 5, 9, 3);
        t.addFlow(0, 1, SET, 0, 1, 1);
        t.addFlow(0, 2, SET, 0, 1, 1);
        t.addFlow(0, 1, HEEDING, 0, 1, 1);
        t.step(1);
        checks.due("waiting(0)", 2, t.waiting(0));
        t.step(1);
        checks.due("linkOf(1)", 1, t.linkOf(1));
        checks.due("waiting(0)", 1, t.waiting(0));
        t.step(1);
        checks.due("linkOf(2)", 0, t.linkOf(2));
    }

    private void rateIsForATick() {
        for (int rate = 1; rate <= 3; rate++) {
            Turnpike t = Checks.withNodes(2);
            t.addLink(0, 1, 1, 9, rate);
            t.addPhase(1, 0, 9, 9);
            t.addPhase(1, 1, 40, 40);
            t.addFlow(0, 1, SET, 0, 1, 7);
            t.step(9);
            checks.due("count(0, 1) at red", 0, t.count(0, 1));
            t.step(1);
            checks.due("count(0, 1) at a rate of " + rate, rate, t.count(0, 1));
            t.step(1);
            checks.due("count(0, 1) at a rate of " + rate, 2 * rate, t.count(0, 1));
        }
    }

    /** The first one is to go onto a full link; the next one, which is at its node, cannot pass. */
    private void firstVehicleKeepsBackTheNext() {
        Turnpike t = Checks.withNodes(3);
        t.addLink(0, 1, 1, 9, 3);
        t.addLink(1, 2, 1, 1, 1);
        t.addPhase(2, 0, 40, 40);
        t.addFlow(0, 2, HEEDING, 0, 1, 2);
        t.addFlow(0, 1, SET, 1, 1, 1);
        t.step(9);
        checks.due("linkOf(0)", 1, t.linkOf(0));
        checks.due("linkOf(1)", 0, t.linkOf(1));
        checks.due("linkOf(2)", 0, t.linkOf(2));
        checks.due("queue(0)", 2, t.queue(0));
        t.dropSignal(2);
        // Of two links the link 1 is first in tick 9: it makes room, and both go on.
        t.step(1);
        checks.due("stateOf(0)", 2, t.stateOf(0));
        checks.due("linkOf(1)", 1, t.linkOf(1));
        checks.due("stateOf(2)", 2, t.stateOf(2));
    }

    private static Turnpike withTwoWays(int kind) {
        Turnpike t = Checks.withNodes(3);
        t.addLink(0, 1, 5, 9, 1);
        t.addLink(1, 2, 1, 9, 1);
        t.addLink(1, 2, 3, 9, 1);
        t.addFlow(0, 2, kind, 0, 1, 1);
        t.step(2);
        return t;
    }

    private void setVehiclesKeepTheirWay() {
        Turnpike t = withTwoWays(SET);
        t.addLink(0, 2, 1, 9, 1);
        t.addFlow(1, 2, SET, 2, 1, 1);
        t.slow(1, 0, 200);
        t.step(4);
        checks.due("costOf(1) in tick 5", 11, t.costOf(1));
        checks.due("nextLink(1, 2)", 2, t.nextLink(1, 2));
        checks.due("linkOf(0)", 1, t.linkOf(0));
    }

    private void heedingVehiclesChooseAgain() {
        Turnpike t = withTwoWays(HEEDING);
        t.addFlow(1, 2, SET, 2, 1, 1);
        t.slow(1, 0, 200);
        t.step(4);
        checks.due("linkOf(0)", 2, t.linkOf(0));
        checks.due("linkOf(1)", 1, t.linkOf(1));
    }

    /** Where it goes next is to be chosen whenever it could go on, and may lead back. */
    private void heedingVehiclesGoBack() {
        Turnpike t = Checks.withNodes(3);
        t.addLink(0, 1, 1, 9, 1);
        t.addLink(1, 0, 1, 9, 1);
        t.addLink(1, 2, 1, 9, 1);
        t.addLink(0, 2, 20, 9, 1);
        t.addFlow(0, 2, HEEDING, 0, 1, 1);
        for (int i = 0; i < 40; i++) {
            t.step(1);
            checks.due("linkOf(0) there", 0, t.linkOf(0));
            t.shut(2, true);
            t.step(1);
            checks.due("linkOf(0) back", 1, t.linkOf(0));
            t.shut(2, false);
        }
        checks.due("linksOf(0)", 80, t.linksOf(0));
        for (int place = 0; place < 80; place++) {
            checks.due("linkAt(0, " + place + ")", place % 2, t.linkAt(0, place));
        }
        t.step(9);
        checks.due("linksOf(0)", 82, t.linksOf(0));
        checks.due("linkAt(0, 81)", 2, t.linkAt(0, 81));
        checks.due("tripOf(0)", 82, t.tripOf(0));
        checks.due("delayOf(0)", 0, t.delayOf(0));
        checks.due("turned(0, 1)", 40, t.turned(0, 1));
        checks.due("turned(1, 0)", 40, t.turned(1, 0));
    }

    private void setVehiclesWaitForAShutLink() {
        Turnpike t = withTwoWays(SET);
        t.shut(1, true);
        t.step(20);
        checks.due("linkOf(0) ahead of a shut link", 0, t.linkOf(0));
        t.shut(1, false);
        t.step(1);
        checks.due("linkOf(0) ahead of an open link", 1, t.linkOf(0));
        Turnpike u = withTwoWays(HEEDING);
        u.shut(1, true);
        u.step(20);
        checks.due("tripOf(0) over the other link", 8, u.tripOf(0));
    }

    private void newLinksAreRedAtASignal() {
        Turnpike t = Checks.withNodes(2);
        t.addLink(0, 1, 2, 9, 1);
        t.addPhase(1, 1, 1, 40);
        t.addLink(0, 1, 1, 9, 1);
        t.addFlow(0, 1, SET, 0, 1, 1);
        t.step(20);
        checks.due("linkOf(0)", 1, t.linkOf(0));
        t.addPhase(1, 2, 1, 40);
        t.step(1);
        checks.due("phaseOf(1)", 1, t.phaseOf(1));
        checks.due("stateOf(0)", 2, t.stateOf(0));
    }

    private void signalDoesNotHoldThoseThatWait() {
        Turnpike t = Checks.withNodes(3);
        t.addLink(0, 1, 1, 9, 1);
        t.addLink(1, 2, 1, 9, 1);
        t.addPhase(1, 0, 40, 40);
        t.addFlow(1, 2, SET, 0, 1, 1);
        t.step(2);
        checks.due("stateOf(0)", 2, t.stateOf(0));
    }

    private void refreshKeepsCosts() {
        Turnpike t = Checks.withNodes(2);
        t.addLink(0, 1, 1, 9, 1);
        t.addLink(0, 1, 2, 9, 1);
        t.addPhase(1, 0, 40, 40);
        t.setRefresh(4);
        t.addFlow(0, 1, SET, 0, 1, 3);
        t.addFlow(0, 1, HEEDING, 3, 1, 2);
        // The costs of tick 0 are those of the ticks 0 to 3; in tick 4 four are queued.
        t.step(5);
        for (int vehicle = 0; vehicle < 4; vehicle++) {
            checks.due("linkOf(" + vehicle + ")", 0, t.linkOf(vehicle));
        }
        checks.due("linkOf(4)", 1, t.linkOf(4));
        checks.due("costOf(0)", 5, t.costOf(0));
    }

    /** Eleven links over twelve nodes, the last node first, with the greatest numbers of links. */
    private void longestWay() {
        for (int kind = SET; kind <= HEEDING; kind++) {
            Turnpike t = Checks.withNodes(12);
            for (int i = 0; i < 13; i++) {
                t.addLink(0, 11, 1, 1, 1);
            }
            for (int i = 0; i < 11; i++) {
                t.addLink(11 - i, 10 - i, 1 + i, 1, 1);
            }
            t.addFlow(11, 0, kind, 0, 1, 1);
            t.step(60);
            checks.due("arrivesIn(0, 7) in tick 66", 7, t.arrivesIn(0, 7));
            t.step(10);
            checks.due("tripOf(0)", 66, t.tripOf(0));
            checks.due("delayOf(0)", 0, t.delayOf(0));
            checks.due("linksOf(0)", 11, t.linksOf(0));
            for (int place = 0; place < 11; place++) {
                checks.due("linkAt(0, " + place + ")", 13 + place, t.linkAt(0, place));
            }
        }
    }

    private void signalAtTheFirstNode() {
        Turnpike t = Checks.withNodes(2);
        t.addLink(1, 0, 1, 9, 1);
        t.addPhase(0, 0, 3, 3);
        t.addPhase(0, 1, 3, 3);
        t.addFlow(1, 0, SET, 0, 1, 1);
        t.step(3);
        checks.due("phaseOf(0)", 0, t.phaseOf(0));
        checks.due("stateOf(0) at red", 1, t.stateOf(0));
        t.step(1);
        checks.due("phaseOf(0)", 1, t.phaseOf(0));
        checks.due("tripOf(0)", 3, t.tripOf(0));
    }
}
