/** Terms, 5, and promises 34 to 37: what was counted. */
final class CountBoundaries extends Boundaries {
    CountBoundaries(Checks checks, Document document) {
        super(checks, document);
    }

    @Override
    void run() {
        ofLinks();
        trips();
        delays();
        promise34();
        promise35();
        promise36();
        promise37();
    }

    /** Three go from the link 0 onto the link 1, two onto the link 2, and one has arrived there. */
    private static Turnpike fork() {
        Turnpike t = Checks.withNodes(4);
        t.addLink(0, 1, 1, 9, 1);
        t.addLink(1, 2, 3, 9, 1);
        t.addLink(1, 3, 3, 9, 1);
        t.addPhase(1, 0, 8, 8);
        t.addPhase(1, 1, 40, 40);
        t.addFlow(0, 2, SET, 0, 2, 3);
        t.addFlow(0, 3, HEEDING, 1, 2, 2);
        t.addFlow(0, 1, SET, 5, 1, 1);
        t.addFlow(1, 2, SET, 0, 1, 1);
        return t;
    }

    private void ofLinks() {
        terms("5 COUNTS. For each link: how many came onto it, how many left it (also as they ARRIVED), "
                + "its greatest QUEUE at (g), its sum of QUEUES, and for each two links how many went "
                + "from the first one onto the second one.");
        Turnpike t = fork();
        for (int what = 0; what < 4; what++) {
            checks.due("count(0, " + what + ") at first", 0, t.count(0, what));
        }
        t.step(8);
        // Queued at (g) of the ticks 1 to 7: 1, 2, 3, 4, 5, 6 and 6.
        countsAre("at red", t, 0, 6, 0, 6, 27);
        t.step(20);
        // One less in each of the next ticks: 5, 4, 3, 2, 1.
        countsAre("behind it", t, 0, 6, 6, 6, 42);
        countsAre("of those that arrived", t, 1, 4, 4, 0, 0);
        countsAre("of those that arrived", t, 2, 2, 2, 0, 0);
        int[][] turned = {{0, 3, 2}, {0, 0, 0}, {0, 0, 0}};
        for (int link = 0; link < 3; link++) {
            for (int next = 0; next < 3; next++) {
                checks.due("turned(" + link + ", " + next + ")", turned[link][next], t.turned(link, next));
            }
        }
        thereAndBack();
    }

    private void countsAre(String when, Turnpike t, int link, int... want) {
        for (int what = 0; what < 4; what++) {
            checks.due("count(" + link + ", " + what + ") " + when, want[what], t.count(link, what));
        }
    }

    /** A heeding vehicle goes from one link onto another one more than once, and counts each time. */
    private void thereAndBack() {
        Turnpike t = Checks.withNodes(3);
        t.addLink(0, 1, 1, 9, 1);
        t.addLink(1, 0, 1, 9, 1);
        t.addLink(1, 2, 1, 9, 1);
        t.addLink(0, 2, 20, 9, 1);
        t.addFlow(0, 2, HEEDING, 0, 1, 1);
        for (int i = 0; i < 3; i++) {
            t.step(1);
            t.shut(2, true);
            t.step(1);
            t.shut(2, false);
        }
        checks.due("turned(0, 1)", 3, t.turned(0, 1));
        checks.due("turned(1, 0)", 2, t.turned(1, 0));
        checks.due("count(0, 0)", 3, t.count(0, 0));
        checks.due("count(1, 1)", 2, t.count(1, 1));
    }

    private void trips() {
        terms("A trip takes the difference of the tick in which the vehicle ARRIVED and that in which it "
                + "came.");
        Turnpike t = Checks.road(4, 1, 1);
        t.addFlow(0, 1, SET, 3, 1, 3);
        t.step(20);
        // They come in the ticks 3, 4 and 5, and arrive in the ticks 7, 11 and 15.
        int[] trips = {4, 7, 10};
        for (int vehicle = 0; vehicle < 3; vehicle++) {
            checks.due("tripOf(" + vehicle + ")", trips[vehicle], t.tripOf(vehicle));
        }
    }

    private void delays() {
        terms("Its DELAY is what it took less the sum of the times of the links over which it went.");
        Turnpike t = Checks.withNodes(3);
        t.addLink(0, 1, 4, 1, 1);
        t.addLink(1, 2, 5, 9, 1);
        t.addPhase(2, 0, 12, 12);
        t.addPhase(2, 2, 40, 40);
        t.addFlow(0, 2, SET, 0, 1, 2);
        t.step(20);
        // The first one is held up by red in the ticks 9 to 11, the second one by room for 3 ticks.
        checks.due("tripOf(0)", 12, t.tripOf(0));
        checks.due("delayOf(0)", 3, t.delayOf(0));
        checks.due("tripOf(1)", 12, t.tripOf(1));
        checks.due("delayOf(1)", 3, t.delayOf(1));
        t.addFlow(0, 2, HEEDING, 20, 1, 1);
        t.step(10);
        checks.due("delayOf() of one that nothing held up", 0, t.delayOf(2));
    }

    private void promise34() {
        promise(34, "- `link`: a link - `what`: 0 how many came onto it, 1 how many left it, 2 its greatest "
                + "QUEUE, 3 its sum of QUEUES Returns that.");
        Turnpike t = fork();
        t.step(10);
        // In the ticks 8 and 9 two left of the six that were queued.
        countsAre("behind ten ticks", t, 0, 6, 2, 6, 36);
        Turnpike u = full();
        for (int link = 0; link < 24; link++) {
            checks.due("count(link, 0) less count(link, 1)", u.onLink(link), u.count(link, 0) - u.count(link, 1));
        }
        askedOfNoLink(34, "count(.., 0)", (x, link) -> x.count(link, 0));
        refusesLinks("count(.., 3)", (x, link) -> x.count(link, 3));
        promise(34, "Throws `IllegalArgumentException` if what is not 0 to 3");
        refusesWhat(4);
    }

    private void refusesWhat(int there) {
        Turnpike t = some();
        for (int what : new int[] {Integer.MIN_VALUE, -1, there, there + 1, Integer.MAX_VALUE}) {
            checks.noArgument("count(0, " + what + ")", t, () -> t.count(0, what));
            checks.noArgument("count(1, " + what + ")", t, () -> t.count(1, what));
        }
    }

    private void promise35() {
        promise(35, "- `link`: a link - `next`: another one, or the same Returns how many vehicles went from "
                + "the first one onto the second one.");
        Turnpike t = fork();
        checks.due("turned(0, 1) at first", 0, t.turned(0, 1));
        t.step(10);
        checks.due("turned(0, 1) behind ten ticks", 1, t.turned(0, 1));
        checks.due("turned(0, 2) behind ten ticks", 1, t.turned(0, 2));
        checks.due("turned(1, 0) behind ten ticks", 0, t.turned(1, 0));
        checks.due("turned(0, 0) of the same", 0, t.turned(0, 0));
        checks.due("turned(1, 1) of the same", 0, t.turned(1, 1));
        askedOfNoLink(35, "turned(.., 0)", (x, link) -> x.turned(link, 0));
        refusesLinks("turned(0, ..)", (x, link) -> x.turned(0, link));
        refusesLinks("turned(.., ..)", (x, link) -> x.turned(link, link));
    }

    /** Room for one alone: they go onto the link in the ticks 0, 2 and 4, arrive in 2, 4 and 6. */
    private static Turnpike threeFlows() {
        Turnpike t = Checks.withNodes(3);
        t.addLink(0, 1, 2, 1, 1);
        t.addFlow(0, 1, SET, 0, 1, 3);
        t.addFlow(0, 2, SET, 0, 5, 3);
        t.addFlow(1, 2, HEEDING, 0, 5, 3);
        return t;
    }

    private void promise36() {
        promise(36, "- `flow`: a flow - `what`: 0 how many of its vehicles came, 1 how many ARRIVED, 2 how "
                + "many were GIVEN UP, 3 the sum of their trips, 4 the sum of their DELAYS, 5 the longest "
                + "trip (0 without any) Returns that.");
        Turnpike t = threeFlows();
        flowIs("at first", t, 0, 0, 0, 0, 0, 0, 0);
        t.step(1);
        flowIs("on its way", t, 0, 1, 0, 0, 0, 0, 0);
        flowIs("given up", t, 1, 1, 0, 1, 0, 0, 0);
        flowIs("that waits", t, 2, 1, 0, 0, 0, 0, 0);
        t.step(4);
        flowIs("of which two arrived", t, 0, 3, 2, 0, 5, 1, 3);
        t.step(10);
        flowIs("of which all arrived", t, 0, 3, 3, 0, 9, 3, 4);
        flowIs("given up", t, 1, 3, 0, 3, 0, 0, 0);
        flowIs("that waits", t, 2, 3, 0, 0, 0, 0, 0);
        longestIsNotTheLatest();
        t.addFlow(0, 1, HEEDING, 15, 1, 1);
        t.step(9);
        flowIs("of the one alone", t, 3, 1, 1, 0, 2, 0, 2);
        flowIs("of which all arrived", t, 0, 3, 3, 0, 9, 3, 4);
        promise(36, "Throws `IndexOutOfBoundsException` if there is no such flow");
        refusesNumbers("ofFlow(.., 0)", new Turnpike(), 0, (x, flow) -> x.ofFlow(flow, 0));
        refusesNumbers("ofFlow(.., 0)", some(), 2, (x, flow) -> x.ofFlow(flow, 0));
        refusesNumbers("ofFlow(.., 5)", full(), 10, (x, flow) -> x.ofFlow(flow, 5));
        takesNumbers("ofFlow(.., 5)", some(), 2, (x, flow) -> x.ofFlow(flow, 5));
        takesNumbers("ofFlow(.., 0)", full(), 10, (x, flow) -> x.ofFlow(flow, 0));
        promise(36, "Throws `IllegalArgumentException` if what is not 0 to 5");
        for (int what : new int[] {Integer.MIN_VALUE, -1, 6, 7, Integer.MAX_VALUE}) {
            checks.noArgument("ofFlow(0, " + what + ")", t, () -> t.ofFlow(0, what));
        }
    }

    /** They come in the ticks 0, 10 and 20; the link lets the first and the last one go at 5 and 23. */
    private void longestIsNotTheLatest() {
        Turnpike t = Checks.road(1, 9, 1);
        t.addFlow(0, 1, SET, 0, 10, 3);
        t.slow(0, 0, 5);
        t.step(10);
        flowIs("of a trip of 5", t, 0, 1, 1, 0, 5, 4, 5);
        t.step(10);
        flowIs("of a trip of 1 behind it", t, 0, 2, 2, 0, 6, 4, 5);
        t.slow(0, 0, 3);
        t.step(10);
        flowIs("of a trip of 3 behind them", t, 0, 3, 3, 0, 9, 6, 5);
    }

    private void flowIs(String when, Turnpike t, int flow, int... want) {
        for (int what = 0; what < 6; what++) {
            checks.due("ofFlow(" + flow + ", " + what + ") " + when, want[what], t.ofFlow(flow, what));
        }
    }

    private void promise37() {
        promise(37, "Returns the mean of all trips, not cut; 0 without any.");
        checks.dueDouble("meanTrip() of a new object", 0, new Turnpike().meanTrip());
        Turnpike t = threeFlows();
        checks.dueDouble("meanTrip() ahead of all", 0, t.meanTrip());
        t.step(1);
        checks.dueDouble("meanTrip() of one on its way, one given up, one that waits", 0, t.meanTrip());
        t.step(2);
        checks.dueDouble("meanTrip() of 2", 2, t.meanTrip());
        t.step(2);
        checks.dueDouble("meanTrip() of 2 and 3", 2.5, t.meanTrip());
        t.step(2);
        checks.dueDouble("meanTrip() of 2, 3 and 4", 3, t.meanTrip());
        t.addFlow(0, 1, HEEDING, 7, 9, 2);
        t.step(40);
        checks.dueDouble("meanTrip() of two flows", 13.0 / 5, t.meanTrip());
        t.addFlow(0, 1, HEEDING, 47, 9, 1);
        t.step(40);
        checks.dueDouble("meanTrip() of three flows", 15.0 / 6, t.meanTrip());
        t.addFlow(0, 1, HEEDING, 87, 9, 1);
        t.step(40);
        checks.dueDouble("meanTrip() of four flows", 17.0 / 7, t.meanTrip());
        Turnpike u = full();
        long sum = 0;
        int arrived = 0;
        for (int vehicle = 0; vehicle < 200; vehicle++) {
            sum += Math.max(0, u.tripOf(vehicle));
            arrived += u.stateOf(vehicle) == 2 ? 1 : 0;
        }
        checks.due("some of a full one have arrived", true, arrived > 20);
        checks.dueDouble("meanTrip() of a full one", (double) sum / arrived, u.meanTrip());
    }
}
