/** What the tests of the document's sentences share: each one is quoted ahead of its tests. */
abstract class Boundaries {
    static final int SET = 0;
    static final int HEEDING = 1;

    static final String NO_NODE = "Throws `IndexOutOfBoundsException` if there is no such node";
    static final String NO_LINK = "Throws `IndexOutOfBoundsException` if there is no such link";
    static final String NO_VEHICLE = "Throws `IndexOutOfBoundsException` if there is no such vehicle";

    final Checks checks;
    private final Document document;

    Boundaries(Checks checks, Document document) {
        this.checks = checks;
        this.document = document;
    }

    interface Ask {
        void of(Turnpike t, int number);
    }

    abstract void run();

    final void whatItIs(String words) {
        says("What it is", words);
    }

    final void terms(String words) {
        says("Terms", words);
    }

    final void promise(int number, String words) {
        says("Promise " + number, words);
    }

    private void says(String section, String words) {
        checks.about(section + ", \"" + words + "\"");
        if (!document.quote(section, words)) {
            checks.fail("the document does not say so");
        }
    }

    /** As many of everything as there can be, after 45 ticks: 45 calls or so are used. */
    static Turnpike full() {
        Turnpike t = Checks.withNodes(12);
        for (int i = 0; i < 12; i++) {
            t.addLink(i, (i + 1) % 12, 1 + i % 3, 5, 1 + i % 3);
            t.addLink(i, (i + 11) % 12, 2, 3, 1);
        }
        for (int i = 0; i < 4; i++) {
            t.addPhase(1, i % 2 == 0 ? 1 : 1 << 5, 1, 3);
        }
        for (int i = 0; i < 10; i++) {
            t.addFlow(i, (i + 2 + i % 5) % 12, i % 2, 0, 1 + i % 2, 40);
        }
        t.step(45);
        return t;
    }

    /** 3 nodes, 2 links, 2 flows and 4 vehicles, one of each state. */
    static Turnpike some() {
        Turnpike t = Checks.withNodes(3);
        t.addLink(0, 1, 2, 1, 1);
        t.addLink(1, 0, 2, 1, 1);
        t.addFlow(0, 1, SET, 0, 1, 3);
        t.addFlow(1, 2, SET, 1, 1, 1);
        t.step(3);
        return t;
    }

    /** Slowed, shut, with another refresh, signals, and flows that are to come. */
    static Turnpike onTheWay() {
        Turnpike t = Checks.withNodes(4);
        for (int i = 0; i < 4; i++) {
            t.addLink(i, (i + 1) % 4, 1 + i, 3, 1);
            t.addLink(i, (i + 3) % 4, 2, 2, 2);
        }
        t.addPhase(1, 1, 3, 5);
        t.addPhase(1, 32, 1, 9);
        t.addPhase(2, 4, 2, 2);
        t.setRefresh(3);
        for (int i = 0; i < 6; i++) {
            t.addFlow(i % 4, (i + 1 + i % 3) % 4, i % 2, 5 * i, 2, 20);
        }
        t.slow(2, 0, 30);
        t.shut(5, true);
        t.step(14);
        return t;
    }

    /** The numbers around those that are there, from 0 on, and such as are far from them. */
    final void refusesNumbers(String call, Turnpike t, int there, Ask ask) {
        int[] numbers = {Integer.MIN_VALUE, -2, -1, there, there + 1, 1000, Integer.MAX_VALUE};
        for (int number : numbers) {
            checks.noIndex(call + " of " + number + " where " + there + " are", t, () -> ask.of(t, number));
        }
    }

    /** The first one and the last one that are there are no reason to throw. */
    final void takesNumbers(String call, Turnpike t, int there, Ask ask) {
        for (int number : new int[] {0, there - 1}) {
            checks.takes(call + " of " + number + " where " + there + " are", () -> ask.of(t, number));
        }
    }

    final void askedOfNoNode(int promise, String call, Ask ask) {
        promise(promise, NO_NODE);
        refusesNodes(call, ask);
    }

    final void refusesNodes(String call, Ask ask) {
        refusesNumbers(call, new Turnpike(), 0, ask);
        refusesNumbers(call, some(), 3, ask);
        refusesNumbers(call, full(), 12, ask);
        takesNumbers(call, some(), 3, ask);
        takesNumbers(call, full(), 12, ask);
    }

    final void askedOfNoLink(int promise, String call, Ask ask) {
        promise(promise, NO_LINK);
        refusesLinks(call, ask);
    }

    final void refusesLinks(String call, Ask ask) {
        refusesNumbers(call, new Turnpike(), 0, ask);
        refusesNumbers(call, Checks.withNodes(12), 0, ask);
        refusesNumbers(call, some(), 2, ask);
        refusesNumbers(call, full(), 24, ask);
        takesNumbers(call, some(), 2, ask);
        takesNumbers(call, full(), 24, ask);
    }

    final void askedOfNoVehicle(int promise, String call, Ask ask) {
        promise(promise, NO_VEHICLE);
        refusesVehicles(call, ask);
    }

    final void refusesVehicles(String call, Ask ask) {
        Turnpike ahead = Checks.road(1, 1, 1);
        ahead.addFlow(0, 1, SET, 0, 1, 40);
        refusesNumbers(call, new Turnpike(), 0, ask);
        refusesNumbers(call, ahead, 0, ask);
        refusesNumbers(call, some(), 4, ask);
        refusesNumbers(call, full(), 200, ask);
        takesNumbers(call, some(), 4, ask);
        takesNumbers(call, full(), 200, ask);
    }
}
