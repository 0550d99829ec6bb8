/** Terms, 4: a tick, but for (d), which SignalBoundaries looks at. */
final class TickBoundaries extends Boundaries {
    TickBoundaries(Checks checks, Document document) {
        super(checks, document);
    }

    @Override
    void run() {
        number();
        slowedForAllItsTicks();
        slowedStillInBetween();
        slowedInPlace();
        costsAreReckoned();
        flowByFlow();
        atTheEndOfTheRow();
        noneBeyond200();
        linkByLink();
        withoutLinks();
        asOftenAsTheRate();
        ifItIsAtTheEnd();
        arrived();
        ontoTheNextLink();
        noMoreDo();
        nodeByNode();
        queuesAreCounted();
        clock();
        room();
    }

    private void number() {
        terms("4 A TICK has the number that the CLOCK has. In it, one after the other:");
        Turnpike t = Checks.road(3, 1, 1);
        t.step(7);
        t.addFlow(0, 1, SET, 7, 1, 1);
        t.step(1);
        checks.due("vehicles() of the tick 7", 1, t.vehicles());
        checks.due("endOf(0) of the tick 7", 10, t.endOf(0));
    }

    private void slowedForAllItsTicks() {
        terms("(a) A link that has been SLOWED for all of its ticks has its first rate again, from now on");
        for (int ticks : new int[] {1, 2, 3, 59, 199, 200}) {
            Turnpike t = Checks.queuedRoad(1, 2, 9);
            t.dropSignal(1);
            t.slow(0, 0, ticks);
            Checks.step(t, ticks);
            checks.due("count(0, 1) of " + ticks + " slowed ticks", 0, t.count(0, 1));
            checks.due("costOf(0) in the last one", 91, t.costOf(0));
            t.step(1);
            checks.due("count(0, 1) in the tick behind " + ticks, 2, t.count(0, 1));
            // Its rate is the first one ahead of (b) in that tick.
            checks.due("costOf(0) in the tick behind " + ticks, 6, t.costOf(0));
            t.step(1);
            checks.due("count(0, 1) from then on", 4, t.count(0, 1));
        }
        Turnpike t = Checks.road(1, 1, 1);
        checks.noArgument("slow() for 0 ticks", t, () -> t.slow(0, 0, 0));
        checks.noArgument("slow() for 201 ticks", t, () -> t.slow(0, 0, 201));
    }

    private void slowedStillInBetween() {
        terms("(with n ticks these are the next n ticks that are played; between the last of these and "
                + "the next one it has the slowed rate still).");
        for (int ticks : new int[] {1, 2, 200}) {
            Turnpike t = Checks.road(1, 1, 3);
            t.step(5);
            t.slow(0, 1, ticks);
            checks.due("rateOf() ahead of the first one", 1, t.rateOf(0));
            Checks.step(t, ticks);
            checks.due("rateOf() behind " + ticks, 1, t.rateOf(0));
            t.step(1);
            checks.due("rateOf() behind the next one", 3, t.rateOf(0));
            t.step(60);
            checks.due("rateOf() for good", 3, t.rateOf(0));
        }
    }

    private void slowedInPlace() {
        Turnpike t = Checks.road(1, 1, 3);
        t.slow(0, 1, 200);
        t.step(9);
        checks.due("slow() in place of a longer one", 1, t.slow(0, 2, 1));
        t.step(1);
        checks.due("rateOf() behind it", 2, t.rateOf(0));
        checks.due("slow() behind its last tick", 2, t.slow(0, 0, 2));
        t.step(2);
        checks.due("rateOf() behind that", 0, t.rateOf(0));
        t.step(1);
        checks.due("rateOf() at last", 3, t.rateOf(0));
        checks.due("slow() to the same rate", 3, t.slow(0, 3, 1));
        t.step(2);
        checks.due("rateOf() of the same rate", 3, t.rateOf(0));
    }

    /** The one that comes in the tick finds the costs of the tick, and in tick 2 another link. */
    private void costsAreReckoned() {
        terms("(b) If the tick is a multiple of the REFRESH, the COSTS are reckoned.");
        Turnpike t = Checks.withNodes(2);
        t.addLink(0, 1, 1, 9, 1);
        t.addLink(0, 1, 2, 9, 1);
        t.addPhase(1, 0, 40, 40);
        t.addFlow(0, 1, SET, 0, 1, 3);
        t.step(3);
        int[] over = {0, 0, 1};
        for (int vehicle = 0; vehicle < 3; vehicle++) {
            checks.due("linkOf(" + vehicle + ")", over[vehicle], t.linkOf(vehicle));
        }
        Turnpike u = Checks.withNodes(2);
        u.addLink(0, 1, 1, 9, 1);
        u.addLink(0, 1, 2, 9, 1);
        u.addPhase(1, 0, 40, 40);
        u.setRefresh(4);
        u.addFlow(0, 1, SET, 0, 1, 5);
        u.step(5);
        for (int vehicle = 0; vehicle < 5; vehicle++) {
            checks.due("linkOf(" + vehicle + ") with a refresh of 4", vehicle / 4, u.linkOf(vehicle));
        }
    }

    private void flowByFlow() {
        terms("(c) Flow by flow, vehicles come;");
        Turnpike t = Checks.withNodes(11);
        for (int i = 0; i < 10; i++) {
            t.addLink(i, 10, 20, 9, 1);
        }
        for (int i = 0; i < 10; i++) {
            t.addFlow(9 - i, 10, i % 2, i == 4 ? 1 : 0, 2, 2);
        }
        t.step(3);
        checks.due("vehicles() of the ticks 0, 1 and 2", 19, t.vehicles());
        for (int vehicle = 0; vehicle < 19; vehicle++) {
            int flow = vehicle < 4 ? vehicle : vehicle < 9 ? vehicle + 1 : vehicle == 9 ? 4
                    : vehicle < 14 ? vehicle - 10 : vehicle - 9;
            checks.due("linkOf(" + vehicle + ")", 9 - flow, t.linkOf(vehicle));
        }
    }

    private void atTheEndOfTheRow() {
        terms("one that comes is WAITING, at the end of the row of its node;");
        Turnpike t = Checks.road(5, 30, 1);
        t.addFlow(0, 1, HEEDING, 0, 1, 3);
        t.addFlow(0, 1, SET, 0, 1, 3);
        t.step(1);
        checks.due("stateOf() of the second one that came", 0, t.stateOf(1));
        checks.due("waiting(0)", 1, t.waiting(0));
        t.step(5);
        // The first one arrived in the tick 5, in which the last one went onto the link.
        for (int place = 0; place < 5; place++) {
            checks.due("vehicleAt(0, " + place + ")", place + 1, t.vehicleAt(0, place));
        }
        checks.due("waiting(0) as all are gone", 0, t.waiting(0));
        checks.due("waiting(1)", 0, t.waiting(1));
    }

    private void noneBeyond200() {
        terms("if 200 ever came, those GIVEN UP as well, none comes.");
        Turnpike t = Checks.withNodes(3);
        t.addLink(0, 1, 1, 1, 1);
        for (int i = 0; i < 5; i++) {
            t.addFlow(1, 2, SET, 0, 1, 40);
        }
        t.addFlow(0, 1, SET, 39, 1, 2);
        t.step(39);
        checks.due("vehicles() of 195", 195, t.vehicles());
        t.step(1);
        checks.due("vehicles() of 200 given up", 200, t.vehicles());
        checks.due("stateOf(199)", 3, t.stateOf(199));
        checks.due("ofFlow(5, 0) behind those in the same tick", 0, t.ofFlow(5, 0));
        t.step(60);
        checks.due("vehicles() for good", 200, t.vehicles());
        checks.due("ofFlow(5, 0) for good", 0, t.ofFlow(5, 0));
        checks.due("ofFlow(4, 2)", 40, t.ofFlow(4, 2));
    }

    /** The first link and the last one lead to a third one that has room for one. */
    private void linkByLink() {
        terms("(e) Link by link, if there are any, first the link t % (how many links there are), then "
                + "the next ones, behind the last one the link 0:");
        for (int links : new int[] {3, 4, 23, 24}) {
            for (int tick = 1; tick <= 2 * links + 1; tick++) {
                // From the link 0 on, the link 0 is first; from any other one on, the last one is.
                int winner = tick % links == 0 ? 0 : 1;
                Turnpike t = twoForOne(links, tick);
                checks.due("stateOf(0) of " + links + " links in the tick " + tick, 1, t.stateOf(0));
                checks.due("vehicleAt(1, 0) of " + links + " links in the tick " + tick, winner,
                        t.vehicleAt(1, 0));
                checks.due("onLink(1)", 1, t.onLink(1));
            }
        }
    }

    private static Turnpike twoForOne(int links, int tick) {
        Turnpike t = Checks.withNodes(4);
        t.addLink(0, 2, 1, 9, 1);
        t.addLink(2, 3, 1, 1, 1);
        for (int i = 2; i < links - 1; i++) {
            t.addLink(3, 0, 1, 1, 1);
        }
        t.addLink(1, 2, 1, 9, 1);
        t.addFlow(0, 3, SET, tick - 1, 1, 1);
        t.addFlow(1, 3, HEEDING, tick - 1, 1, 1);
        Checks.step(t, tick + 1);
        return t;
    }

    private void withoutLinks() {
        Turnpike t = new Turnpike();
        checks.due("step(60) without nodes", 60, t.step(60));
        t.addNode();
        t.addNode();
        t.addPhase(0, 0, 1, 1);
        t.addFlow(0, 1, HEEDING, 60, 1, 1);
        checks.due("step(60) without links", 120, t.step(60));
        checks.due("waiting(0)", 1, t.waiting(0));
        checks.due("emptyIn(60)", -1, t.emptyIn(60));
        t.addLink(0, 1, 1, 1, 1);
        checks.due("emptyIn(60) with one", 2, t.emptyIn(60));
    }

    private void asOftenAsTheRate() {
        terms("as often as its rate tells, if it is GREEN, its first vehicle goes on,");
        for (int rate = 0; rate <= 3; rate++) {
            Turnpike t = Checks.withNodes(3);
            t.addLink(0, 1, 1, 30, 1);
            t.addLink(1, 2, 20, 30, 1);
            t.addPhase(1, 0, 20, 20);
            t.addPhase(1, 1, 2, 2);
            t.addFlow(0, 2, SET, 0, 1, 9);
            t.slow(0, rate, 200);
            t.step(20);
            checks.due("turned(0, 1) at red", 0, t.turned(0, 1));
            t.step(1);
            checks.due("turned(0, 1) at green, at a rate of " + rate, rate, t.turned(0, 1));
            t.step(1);
            checks.due("turned(0, 1) at green, in two ticks", 2 * rate, t.turned(0, 1));
            t.step(9);
            checks.due("turned(0, 1) at red again", 2 * rate, t.turned(0, 1));
            for (int place = 0; place < 2 * rate; place++) {
                checks.due("vehicleAt(1, " + place + "), the first one first", place, t.vehicleAt(1, place));
            }
        }
    }

    private void ifItIsAtTheEnd() {
        terms("if it is at the END:");
        Turnpike t = Checks.road(5, 30, 3);
        t.addFlow(0, 1, SET, 0, 1, 3);
        // One comes onto it in each tick, so that a rate of 3 lets no more than one go in each.
        int[] left = {0, 0, 0, 0, 0, 1, 2, 3, 3};
        for (int tick = 0; tick < left.length; tick++) {
            t.step(1);
            checks.due("count(0, 1) in the tick " + tick, left[tick], t.count(0, 1));
        }
    }

    private void arrived() {
        terms("if it is at the node to which it is to go, it has ARRIVED;");
        Turnpike t = Checks.withNodes(3);
        t.addLink(0, 1, 1, 9, 1);
        t.addLink(1, 2, 1, 9, 1);
        t.addFlow(0, 1, HEEDING, 0, 1, 1);
        t.addFlow(0, 2, HEEDING, 1, 1, 1);
        t.step(2);
        checks.due("stateOf(0)", 2, t.stateOf(0));
        checks.due("linkOf(0)", -1, t.linkOf(0));
        checks.due("endOf(0)", -1, t.endOf(0));
        checks.due("tripOf(0)", 1, t.tripOf(0));
        checks.due("onLink(0), of the next one alone", 1, t.onLink(0));
        t.step(1);
        checks.due("linkOf(1), which goes farther", 1, t.linkOf(1));
    }

    private void ontoTheNextLink() {
        terms("otherwise it goes onto its next link, if it has one, and this is not SHUT and has room.");
        for (int kind = SET; kind <= HEEDING; kind++) {
            Turnpike t = Checks.withNodes(3);
            t.addLink(0, 1, 1, 9, 1);
            t.addLink(1, 2, 2, 1, 1);
            t.addFlow(0, 2, kind, 0, 1, 2);
            t.step(1);
            t.shut(1, true);
            t.step(5);
            checks.due("linkOf(0) ahead of a shut one", 0, t.linkOf(0));
            checks.due("stateOf(1) behind it", kind == SET ? 3 : 0, t.stateOf(1));
            t.shut(1, false);
            t.step(1);
            checks.due("linkOf(0) ahead of an open one", 1, t.linkOf(0));
            checks.due("endOf(0) of then", 8, t.endOf(0));
        }
        fullAhead();
        noneAhead();
    }

    /** The link 1 has room for one, which is there from the tick 1 to the tick 3 of two links. */
    private void fullAhead() {
        Turnpike t = Checks.withNodes(3);
        t.addLink(0, 1, 1, 9, 1);
        t.addLink(1, 2, 2, 1, 1);
        t.addFlow(0, 2, SET, 0, 1, 2);
        t.step(3);
        checks.due("linkOf(1) ahead of a full one", 0, t.linkOf(1));
        checks.due("queue(0)", 1, t.queue(0));
        // In the tick 3 the link 1 is first: it makes room, and the link 0 behind it has it.
        t.step(1);
        checks.due("stateOf(0)", 2, t.stateOf(0));
        checks.due("linkOf(1) as it has room", 1, t.linkOf(1));
    }

    private void noneAhead() {
        Turnpike t = Checks.withNodes(3);
        t.addLink(0, 1, 1, 9, 1);
        t.addLink(1, 2, 1, 9, 1);
        t.addFlow(0, 2, HEEDING, 0, 1, 1);
        t.step(1);
        t.shut(1, true);
        t.addFlow(0, 1, SET, 1, 1, 1);
        t.step(20);
        checks.due("linkOf(0) without a next one", 0, t.linkOf(0));
        checks.due("linkOf(1) behind it", 0, t.linkOf(1));
        t.addLink(1, 0, 1, 9, 1);
        t.addLink(0, 2, 9, 9, 1);
        t.step(1);
        checks.due("linkOf(0) with one that leads back", 2, t.linkOf(0));
        t.step(1);
        checks.due("linkOf(0) with one that leads round", 3, t.linkOf(0));
        checks.due("stateOf(1)", 2, t.stateOf(1));
    }

    /** At a rate of 3 the first one goes, the second one cannot, and the third one could. */
    private void noMoreDo() {
        terms("As soon as the first vehicle cannot go on, no more do.");
        Turnpike t = Checks.withNodes(3);
        t.addLink(0, 1, 1, 9, 3);
        t.addLink(1, 2, 9, 1, 1);
        t.addPhase(1, 0, 9, 9);
        t.addPhase(1, 1, 40, 40);
        t.addFlow(0, 2, SET, 0, 1, 2);
        t.addFlow(0, 1, SET, 1, 1, 1);
        t.step(9);
        checks.due("queue(0) at red", 3, t.queue(0));
        t.step(1);
        checks.due("linkOf(0), the first one", 1, t.linkOf(0));
        checks.due("linkOf(1), the second one", 0, t.linkOf(1));
        checks.due("linkOf(2), the third one", 0, t.linkOf(2));
        checks.due("count(0, 1)", 1, t.count(0, 1));
        t.step(8);
        checks.due("linkOf(2), ahead of the room", 0, t.linkOf(2));
        t.step(2);
        checks.due("linkOf(1), as there is room", 1, t.linkOf(1));
        checks.due("stateOf(2), as the way is free", 2, t.stateOf(2));
    }

    private void nodeByNode() {
        terms("(f) Node by node, the first vehicle in the row of those WAITING there goes onto its next "
                + "link likewise, if it can; one in a tick.");
        Turnpike t = Checks.withNodes(12);
        for (int i = 0; i < 12; i++) {
            t.addLink(i, (i + 1) % 12, 9, 30, 3);
        }
        for (int i = 0; i < 9; i++) {
            t.addFlow(i, (i + 1) % 12, i % 2, 0, 1, 2);
        }
        t.addFlow(11, 0, SET, 0, 1, 1);
        t.step(1);
        for (int i = 0; i < 9; i++) {
            checks.due("onLink(" + i + ")", 1, t.onLink(i));
        }
        checks.due("onLink(11)", 1, t.onLink(11));
        oneInATick();
        firstCannot();
        behindTheLinks();
    }

    private void oneInATick() {
        Turnpike t = Checks.withNodes(4);
        for (int i = 1; i < 4; i++) {
            t.addLink(0, i, 9, 9, 3);
            t.addFlow(0, i, SET, 0, 1, 1);
        }
        for (int gone = 1; gone <= 3; gone++) {
            t.step(1);
            checks.due("waiting(0) of three", 3 - gone, t.waiting(0));
            checks.due("linkOf() of the last one that went", gone - 1, t.linkOf(gone - 1));
        }
    }

    private void firstCannot() {
        firstCannot("a shut link", 9, SET, 1, true);
        firstCannot("a full link", 1, SET, 1, false);
        firstCannot("no link", 9, HEEDING, 3, false);
    }

    /** Of two that wait the first one cannot go, and keeps back the second one, which could. */
    private void firstCannot(String why, int room, int kind, int to, boolean isShut) {
        Turnpike t = Checks.withNodes(4);
        t.addLink(0, 1, 20, room, 1);
        t.addLink(0, 2, 20, 9, 1);
        t.addFlow(0, 1, SET, 0, 1, 1);
        t.addFlow(0, to, kind, 0, 1, 1);
        t.addFlow(0, 2, SET, 0, 1, 1);
        t.step(1);
        t.shut(0, isShut);
        t.step(19);
        checks.due("waiting(0) ahead of " + why, 2, t.waiting(0));
        checks.due("onLink(1) behind it", 0, t.onLink(1));
        t.shut(0, false);
        t.addLink(0, 3, 20, 9, 1);
        t.step(1);
        checks.due("waiting(0), as the first one can go", 1, t.waiting(0));
        checks.due("stateOf(1)", 1, t.stateOf(1));
        t.step(1);
        checks.due("linkOf(2) behind it", 1, t.linkOf(2));
    }

    /** A link is ahead of those that wait, also where both would have the same room. */
    private void behindTheLinks() {
        Turnpike t = Checks.withNodes(3);
        t.addLink(0, 1, 1, 9, 1);
        t.addLink(1, 2, 9, 1, 1);
        t.addFlow(1, 2, SET, 1, 1, 1);
        t.addFlow(0, 2, SET, 0, 1, 1);
        t.step(2);
        checks.due("linkOf() of the one from the link", 1, t.linkOf(0));
        checks.due("stateOf() of the one that waits", 0, t.stateOf(1));
        t.step(8);
        checks.due("stateOf() of the one that waits, ahead of the room", 0, t.stateOf(1));
        t.step(1);
        checks.due("linkOf() as the link made room in this tick", 1, t.linkOf(1));
    }

    /** In the tick 5 two go on of four that are queued. */
    private void queuesAreCounted() {
        terms("(g) What is counted: the QUEUE of each link is added to its sum of QUEUES, as it is at the "
                + "END of this tick (those that are at the END in the tick t, and did not go on).");
        Turnpike t = Checks.road(2, 30, 2);
        t.addPhase(1, 0, 5, 5);
        t.addPhase(1, 1, 40, 40);
        t.addFlow(0, 1, SET, 0, 1, 7);
        int[] sum = {0, 0, 1, 3, 6, 8, 9, 9, 9, 9};
        int[] greatest = {0, 0, 1, 2, 3, 3, 3, 3, 3, 3};
        for (int tick = 0; tick < sum.length; tick++) {
            t.step(1);
            checks.due("count(0, 3) in the tick " + tick, sum[tick], t.count(0, 3));
            checks.due("count(0, 2) in the tick " + tick, greatest[tick], t.count(0, 2));
        }
    }

    private void clock() {
        terms("Then the CLOCK becomes 1 more.");
        Turnpike t = new Turnpike();
        checks.due("step(1)", 1, t.step(1));
        checks.due("clock()", 1, t.clock());
        checks.due("step(60)", 61, t.step(60));
        checks.due("clock()", 61, t.clock());
    }

    private void room() {
        terms("A link has room, if it has fewer vehicles than its room.");
        for (int room : new int[] {1, 2, 30}) {
            Turnpike t = Checks.withNodes(3);
            t.addLink(0, 1, 1, 30, 3);
            t.addLink(1, 2, 20, room, 3);
            t.addPhase(2, 0, 40, 40);
            t.addFlow(0, 2, SET, 0, 1, 40);
            t.step(60);
            checks.due("onLink(1) from a link", room, t.onLink(1));
            checks.due("onLink(0) behind it", Math.min(30, 40 - room), t.onLink(0));
            t.dropSignal(2);
            t.step(1);
            checks.due("count(1, 1)", Math.min(room, 3), t.count(1, 1));
            checks.due("onLink(1) as they left", Math.max(0, room - 3), t.onLink(1));
            // In the tick 61 the link 1 is first: three leave, if there are so many, and three come.
            t.step(1);
            checks.due("onLink(1) as there was room", room == 30 ? 27 : room, t.onLink(1));
        }
    }
}
