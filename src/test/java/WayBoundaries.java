/** Terms, 3: costs and ways. */
final class WayBoundaries extends Boundaries {
    WayBoundaries(Checks checks, Document document) {
        super(checks, document);
    }

    @Override
    void run() {
        costs();
        costsAtARateOf0();
        refresh();
        refreshOfAllLinks();
        changedRefresh();
        linksThatComeInBetween();
        notOverShutLinks();
        shutAsItIsChosen();
        leastSum();
        smallestNumber();
        fromNodeToNode();
    }

    private void costs() {
        terms("3 WAYS. The COST of a link is its time, and its QUEUE divided by its rate as it is, with "
                + "what is left over made up to 1 more");
        for (int queued = 0; queued <= 30; queued++) {
            Turnpike t = Checks.queuedRoad(3, 1, queued);
            for (int rate = 1; rate <= 3; rate++) {
                t.slow(0, rate, 9);
                t.step(1);
                int more = 0;
                for (int left = queued; left > 0; left -= rate) {
                    more++;
                }
                checks.due("costOf() of " + queued + " at a rate of " + rate, 3 + more, t.costOf(0));
            }
        }
    }

    private void costsAtARateOf0() {
        terms("(10 for each vehicle of the QUEUE, if that rate is 0);");
        for (int queued = 0; queued <= 30; queued++) {
            Turnpike t = Checks.queuedRoad(20, 3, queued);
            t.slow(0, 0, 9);
            t.step(1);
            checks.due("costOf() of " + queued + " at a rate of 0", 20 + 10 * queued, t.costOf(0));
        }
        // Those that are not at the END yet cost nothing.
        Turnpike t = Checks.road(9, 30, 1);
        t.addFlow(0, 1, SET, 0, 1, 9);
        t.slow(0, 0, 9);
        t.step(9);
        checks.due("onLink(0)", 9, t.onLink(0));
        checks.due("costOf() of those that are not queued", 9, t.costOf(0));
    }

    /** In the tick t the least of t and 30 vehicles are queued. */
    private void refresh() {
        terms("it is reckoned for all links in each tick that is a multiple of the REFRESH (1 to 30; 1, "
                + "at first), and stays as it is till it is reckoned again.");
        for (int refresh = 1; refresh <= 30; refresh++) {
            Turnpike t = Checks.road(1, 30, 1);
            t.addPhase(1, 0, 40, 40);
            t.addFlow(0, 1, SET, 0, 1, 40);
            if (refresh > 1) {
                checks.due("setRefresh()", 1, t.setRefresh(refresh));
            }
            for (int tick = 0; tick <= 61; tick++) {
                t.step(1);
                int reckoned = tick / refresh * refresh;
                checks.due("costOf() in the tick " + tick + " with a refresh of " + refresh,
                        1 + Math.min(30, reckoned), t.costOf(0));
            }
        }
        Turnpike t = new Turnpike();
        checks.noArgument("setRefresh(0)", t, () -> t.setRefresh(0));
        checks.noArgument("setRefresh(31)", t, () -> t.setRefresh(31));
    }

    private void refreshOfAllLinks() {
        Turnpike t = Checks.withNodes(3);
        t.addLink(0, 2, 1, 9, 1);
        for (int i = 1; i < 23; i++) {
            t.addLink(2, 0, i % 20 + 1, 9, 1);
        }
        t.addLink(1, 2, 1, 9, 1);
        t.addPhase(2, 0, 40, 40);
        t.addFlow(0, 2, SET, 0, 1, 4);
        t.addFlow(1, 2, SET, 0, 1, 7);
        t.setRefresh(12);
        t.step(12);
        checks.due("costOf(0) ahead of it", 1, t.costOf(0));
        checks.due("costOf(23) ahead of it", 1, t.costOf(23));
        t.step(1);
        checks.due("costOf(0) in it", 5, t.costOf(0));
        checks.due("costOf(23) in it", 8, t.costOf(23));
        for (int i = 1; i < 23; i++) {
            checks.due("costOf(" + i + ") of an empty one", i % 20 + 1, t.costOf(i));
        }
    }

    /** Multiples are counted from the tick 0 on, not from the tick of the change. */
    private void changedRefresh() {
        Turnpike t = Checks.road(1, 30, 1);
        t.addPhase(1, 0, 40, 40);
        t.addFlow(0, 1, SET, 0, 1, 40);
        t.setRefresh(30);
        t.step(8);
        checks.due("setRefresh(7)", 30, t.setRefresh(7));
        t.step(6);
        checks.due("costOf() in the tick 13", 1, t.costOf(0));
        t.step(1);
        checks.due("costOf() in the tick 14", 15, t.costOf(0));
        checks.due("setRefresh(16)", 7, t.setRefresh(16));
        t.step(1);
        checks.due("costOf() in the tick 15", 15, t.costOf(0));
        t.step(1);
        checks.due("costOf() in the tick 16", 17, t.costOf(0));
    }

    private void linksThatComeInBetween() {
        terms("For a link that comes in between the COST is its time till then.");
        Turnpike t = Checks.withNodes(2);
        t.setRefresh(30);
        t.step(1);
        t.addLink(0, 1, 7, 9, 1);
        checks.due("costOf() at once", 7, t.costOf(0));
        checks.due("distance() at once", 7, t.distance(0, 1));
        t.addPhase(1, 0, 40, 40);
        t.addFlow(0, 1, SET, 1, 1, 5);
        t.step(29);
        checks.due("queue() behind the tick 29", 5, t.queue(0));
        checks.due("costOf() behind the tick 29", 7, t.costOf(0));
        t.step(1);
        checks.due("costOf() behind the tick 30", 12, t.costOf(0));
        t.addLink(0, 1, 9, 9, 1);
        checks.due("costOf() of one that comes then", 9, t.costOf(1));
        checks.due("nextLink() over it", 1, t.nextLink(0, 1));
    }

    private void notOverShutLinks() {
        terms("A way leads over links that are not SHUT");
        Turnpike t = Checks.withNodes(3);
        t.addLink(0, 1, 1, 9, 1);
        t.addLink(1, 2, 1, 9, 1);
        t.addLink(0, 2, 9, 9, 1);
        checks.due("distance() as none is shut", 2, t.distance(0, 2));
        t.shut(1, true);
        checks.due("distance() without the link 1", 9, t.distance(0, 2));
        checks.due("nextLink() without the link 1", 2, t.nextLink(0, 2));
        t.shut(2, true);
        checks.due("distance() without a way", -1, t.distance(0, 2));
        checks.due("nextLink() without a way", -1, t.nextLink(0, 2));
        t.addFlow(0, 2, SET, 0, 1, 2);
        t.step(1);
        checks.due("stateOf() without a way", 3, t.stateOf(0));
        t.shut(2, false);
        t.step(1);
        checks.due("linkOf() over the open one", 2, t.linkOf(1));
    }

    private void shutAsItIsChosen() {
        terms("(as that is when it is chosen).");
        for (int kind = SET; kind <= HEEDING; kind++) {
            Turnpike t = Checks.withNodes(3);
            t.addLink(0, 1, 3, 9, 1);
            t.addLink(1, 2, 1, 9, 1);
            t.addLink(1, 2, 9, 9, 1);
            t.addFlow(0, 2, kind, 0, 1, 1);
            t.step(1);
            t.shut(1, true);
            t.step(5);
            checks.due("linkOf(0) of the kind " + kind, kind == SET ? 0 : 2, t.linkOf(0));
            t.shut(1, false);
            t.step(1);
            checks.due("linkOf(0) as it is open again", kind == SET ? 1 : 2, t.linkOf(0));
        }
    }

    /** Four ways, of which that over three links costs least. */
    private void leastSum() {
        terms("Of all ways with the least sum of COSTS one goes,");
        Turnpike t = Checks.withNodes(5);
        t.addLink(0, 4, 7, 9, 1);
        t.addLink(0, 1, 4, 9, 1);
        t.addLink(1, 4, 3, 9, 1);
        t.addLink(0, 2, 2, 9, 1);
        t.addLink(2, 3, 2, 9, 1);
        t.addLink(3, 4, 2, 9, 1);
        t.addLink(2, 4, 5, 9, 1);
        t.addFlow(0, 4, SET, 0, 1, 1);
        t.addFlow(0, 4, HEEDING, 0, 1, 1);
        checks.due("distance(0, 4)", 6, t.distance(0, 4));
        t.step(8);
        for (int vehicle = 0; vehicle < 2; vehicle++) {
            checks.due("linksOf(" + vehicle + ")", 3, t.linksOf(vehicle));
            for (int place = 0; place < 3; place++) {
                checks.due("linkAt(" + vehicle + ", " + place + ")", 3 + place, t.linkAt(vehicle, place));
            }
        }
        longestWay();
    }

    /** Eleven links over all twelve nodes, the last node first. */
    private void longestWay() {
        Turnpike t = Checks.withNodes(12);
        for (int i = 11; i > 0; i--) {
            t.addLink(i, i - 1, 20, 1, 1);
        }
        checks.due("distance() over eleven links of time 20", 220, t.distance(11, 0));
        checks.due("distance() back", -1, t.distance(0, 11));
        checks.due("nextLink(11, 0)", 0, t.nextLink(11, 0));
        t.addFlow(11, 0, SET, 0, 1, 1);
        Checks.step(t, 221);
        checks.due("tripOf() over them", 220, t.tripOf(0));
        checks.due("linksOf()", 11, t.linksOf(0));
        checks.due("linkAt() as the last one", 10, t.linkAt(0, 10));
    }

    private void smallestNumber() {
        terms("from node to node, over the link with the smallest number by which the rest of the way "
                + "costs least.");
        Turnpike t = Checks.withNodes(4);
        t.addLink(2, 3, 2, 9, 1);
        t.addLink(0, 2, 1, 9, 1);
        t.addLink(0, 1, 1, 9, 1);
        t.addLink(1, 3, 2, 9, 1);
        t.addLink(1, 3, 2, 9, 1);
        t.addLink(0, 3, 3, 9, 1);
        int[] first = {1, 2, 5};
        for (int i = 0; i < 3; i++) {
            checks.due("nextLink() as " + i + " are shut", first[i], t.nextLink(0, 3));
            checks.due("distance() as " + i + " are shut", 3, t.distance(0, 3));
            t.shut(first[i], true);
        }
        checks.due("nextLink() as all are shut", -1, t.nextLink(0, 3));
        checks.due("nextLink() of two between the same nodes", 3, t.nextLink(1, 3));
        t.shut(3, true);
        checks.due("nextLink() of the other one", 4, t.nextLink(1, 3));
        // A smaller number that costs 1 more is not gone over.
        Turnpike u = Checks.withNodes(2);
        u.addLink(0, 1, 3, 9, 1);
        u.addLink(0, 1, 2, 9, 1);
        checks.due("nextLink() that costs less", 1, u.nextLink(0, 1));
    }

    /** The first link decides first: the way 1, 4 is gone, though 2, 0 has the smallest of all. */
    private void fromNodeToNode() {
        for (int kind = SET; kind <= HEEDING; kind++) {
            Turnpike t = Checks.withNodes(4);
            t.addLink(2, 3, 1, 9, 1);
            t.addLink(0, 1, 1, 9, 1);
            t.addLink(0, 2, 1, 9, 1);
            t.addLink(1, 3, 5, 9, 1);
            t.addLink(1, 3, 1, 9, 1);
            t.addFlow(0, 3, kind, 0, 1, 1);
            t.step(3);
            checks.due("linkAt(0, 0)", 1, t.linkAt(0, 0));
            checks.due("linkAt(0, 1)", 4, t.linkAt(0, 1));
        }
    }
}
