/** What is refused, in which order of the exceptions, and that it changes nothing. */
final class RefusedBoundaries extends Boundaries {
    RefusedBoundaries(Checks checks, Document document) {
        super(checks, document);
    }

    @Override
    void run() {
        terms("A method that throws an exception changes nothing.");
        changesNothing();
        terms("If several exceptions apply, the one that is named first is thrown.");
        indexIsFirst();
        argumentIsAheadOfState();
        stateIsLast();
    }

    /** What refused calls would change may be seen in later ticks alone: so there is a twin. */
    private void changesNothing() {
        for (int start = 0; start < 5; start++) {
            Turnpike refused = begun(start);
            Turnpike twin = begun(start);
            for (int i = 0; i < 5; i++) {
                refuse(refused);
                checks.due("digest() behind what was refused", twin.digest(), refused.digest());
                refused.step(1 + 7 * i);
                twin.step(1 + 7 * i);
                checks.due("digest() at " + twin.clock(), twin.digest(), refused.digest());
            }
            refused.step(60);
            twin.step(60);
            checks.due("digest() in the end", twin.digest(), refused.digest());
            for (int node = 0; node < twin.nodes(); node++) {
                checks.due("dropSignal() in the end", twin.dropSignal(node), refused.dropSignal(node));
            }
            checks.due("setRefresh() in the end", twin.setRefresh(1), refused.setRefresh(1));
        }
    }

    private static Turnpike begun(int start) {
        switch (start) {
            case 0:
                return new Turnpike();
            case 1:
                return some();
            case 2:
                return full();
            case 3:
                return Checks.withNodes(12);
            default:
                return onTheWay();
        }
    }

    /** Each call that can be refused; the object is used for some 60 calls. */
    private void refuse(Turnpike t) {
        refuseTelling(t);
        int node = t.nodes();
        int link = t.links();
        int vehicle = t.vehicles();
        index("isShut()", () -> t.isShut(link));
        index("rateOf()", () -> t.rateOf(link));
        index("costOf()", () -> t.costOf(link));
        index("phaseOf()", () -> t.phaseOf(node));
        index("phaseTicks()", () -> t.phaseTicks(node));
        index("distance()", () -> t.distance(node, 0));
        index("nextLink()", () -> t.nextLink(0, node));
        index("stateOf()", () -> t.stateOf(vehicle));
        index("linkOf()", () -> t.linkOf(vehicle));
        index("endOf()", () -> t.endOf(vehicle));
        index("linksOf()", () -> t.linksOf(vehicle));
        index("linkAt()", () -> t.linkAt(0, 30000));
        index("tripOf()", () -> t.tripOf(vehicle));
        index("delayOf()", () -> t.delayOf(vehicle));
        index("waiting()", () -> t.waiting(node));
        index("onLink()", () -> t.onLink(link));
        index("vehicleAt()", () -> t.vehicleAt(0, 30));
        index("queue()", () -> t.queue(link));
        index("count()", () -> t.count(link, 0));
        index("turned()", () -> t.turned(0, link));
        index("ofFlow()", () -> t.ofFlow(t.flows(), 0));
        index("arrivesIn()", () -> t.arrivesIn(vehicle, 9));
        argument("emptyIn()", () -> t.emptyIn(61));
        index("distanceWithout() of no link", () -> t.distanceWithout(link, 0, 0));
        index("distanceWithout() of no node", () -> t.distanceWithout(0, 0, node));
    }

    private void refuseTelling(Turnpike t) {
        int node = t.nodes();
        int clock = t.clock();
        if (node == 12) {
            state("addNode()", t::addNode);
        }
        index("addLink() to no node", () -> t.addLink(0, node, 1, 1, 1));
        index("addPhase() of no node", () -> t.addPhase(node, 0, 1, 1));
        index("dropSignal() of no node", () -> t.dropSignal(node));
        argument("setRefresh(0)", () -> t.setRefresh(0));
        argument("setRefresh(31)", () -> t.setRefresh(31));
        index("shut() of no link", () -> t.shut(t.links(), true));
        index("slow() of no link", () -> t.slow(t.links(), 1, 1));
        index("addFlow() from no node", () -> t.addFlow(node, 0, SET, clock, 1, 1));
        argument("step(61)", () -> t.step(61));
        argument("step(0)", () -> t.step(0));
        if (node < 2) {
            return;
        }
        argument("addLink() of rate 4", () -> t.addLink(0, 1, 1, 1, 4));
        argument("addPhase() of greatest 41", () -> t.addPhase(1, 0, 1, 41));
        argument("addPhase() of the link 24", () -> t.addPhase(1, 1 << 24, 1, 1));
        argument("addFlow() of 41", () -> t.addFlow(0, 1, SET, clock, 1, 41));
        if (t.links() > 2) {
            argument("slow() to 4", () -> t.slow(2, 4, 1));
            argument("slow() for 201 ticks", () -> t.slow(2, 1, 201));
            argument("slow() for 0 ticks", () -> t.slow(2, 1, 0));
        }
        if (t.links() == 24) {
            state("addLink() as the 25th", () -> t.addLink(0, 1, 1, 1, 1));
            state("addPhase() as the 5th", () -> t.addPhase(1, 0, 1, 1));
            state("addFlow() as the 11th", () -> t.addFlow(0, 1, SET, clock, 1, 1));
        }
    }

    private void index(String call, Runnable run) {
        checks.refuses(call, IndexOutOfBoundsException.class, run);
    }

    private void argument(String call, Runnable run) {
        checks.refuses(call, IllegalArgumentException.class, run);
    }

    private void state(String call, Runnable run) {
        checks.refuses(call, IllegalStateException.class, run);
    }

    /** As many as there can be are there, so that all three exceptions apply. */
    private void indexIsFirst() {
        Turnpike t = full();
        for (int no : new int[] {-1, 12}) {
            checks.noIndex("addLink() from " + no + ", all wrong", t, () -> t.addLink(no, no, 0, 0, 0));
            checks.noIndex("addLink() to " + no + ", all wrong", t, () -> t.addLink(0, no, 21, 31, 4));
            checks.noIndex("addPhase() of " + no + ", all wrong", t, () -> t.addPhase(no, -1, 0, 41));
            checks.noIndex("addFlow() from " + no + ", all wrong", t, () -> t.addFlow(no, no, 2, 0, 0, 0));
            checks.noIndex("addFlow() to " + no + ", all wrong", t, () -> t.addFlow(0, no, 2, 546, 31, 41));
        }
        for (int no : new int[] {-1, 24}) {
            checks.noIndex("slow() of " + no + ", all wrong", t, () -> t.slow(no, 4, 201));
            checks.noIndex("slow() of " + no + ", all wrong", t, () -> t.slow(no, -1, 0));
            checks.noIndex("count() of " + no + ", all wrong", t, () -> t.count(no, 4));
            checks.noIndex("count() of " + no + ", all wrong", t, () -> t.count(no, -1));
        }
        for (int no : new int[] {-1, 10}) {
            checks.noIndex("ofFlow() of " + no + ", all wrong", t, () -> t.ofFlow(no, 6));
            checks.noIndex("ofFlow() of " + no + ", all wrong", t, () -> t.ofFlow(no, -1));
        }
        for (int no : new int[] {-1, 200}) {
            checks.noIndex("arrivesIn() of " + no + ", all wrong", t, () -> t.arrivesIn(no, 0));
            checks.noIndex("arrivesIn() of " + no + ", all wrong", t, () -> t.arrivesIn(no, 61));
        }
    }

    private void argumentIsAheadOfState() {
        Turnpike t = full();
        checks.noArgument("addLink() to the same", t, () -> t.addLink(0, 0, 1, 1, 1));
        checks.noArgument("addLink() of time 0", t, () -> t.addLink(0, 1, 0, 1, 1));
        checks.noArgument("addLink() of room 31", t, () -> t.addLink(0, 1, 1, 31, 1));
        checks.noArgument("addLink() of rate 4", t, () -> t.addLink(0, 1, 1, 1, 4));
        checks.noArgument("addPhase() of -1", t, () -> t.addPhase(1, -1, 1, 1));
        checks.noArgument("addPhase() of a link elsewhere", t, () -> t.addPhase(1, 2, 1, 1));
        checks.noArgument("addPhase() of no link", t, () -> t.addPhase(1, 1 << 24, 1, 1));
        checks.noArgument("addPhase() of least 0", t, () -> t.addPhase(1, 1, 0, 1));
        checks.noArgument("addPhase() of greatest 41", t, () -> t.addPhase(1, 1, 1, 41));
        checks.noArgument("addFlow() to the same", t, () -> t.addFlow(0, 0, SET, 45, 1, 1));
        checks.noArgument("addFlow() of kind 2", t, () -> t.addFlow(0, 1, 2, 45, 1, 1));
        checks.noArgument("addFlow() from the tick 44", t, () -> t.addFlow(0, 1, SET, 44, 1, 1));
        checks.noArgument("addFlow() from the tick 546", t, () -> t.addFlow(0, 1, SET, 546, 1, 1));
        checks.noArgument("addFlow() of period 0", t, () -> t.addFlow(0, 1, SET, 45, 0, 1));
        checks.noArgument("addFlow() of 0", t, () -> t.addFlow(0, 1, SET, 45, 1, 0));
    }

    private void stateIsLast() {
        Turnpike t = full();
        checks.noState("addNode()", t, t::addNode);
        checks.noState("addLink()", t, () -> t.addLink(0, 1, 20, 30, 3));
        checks.noState("addPhase()", t, () -> t.addPhase(1, 33, 40, 40));
        checks.noState("addFlow() from the CLOCK on", t, () -> t.addFlow(0, 1, SET, 45, 1, 1));
        checks.noState("addFlow() from 500 above it on", t, () -> t.addFlow(0, 1, HEEDING, 545, 30, 40));
    }
}
