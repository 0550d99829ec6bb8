/** Terms, 4 (d): signals. */
final class SignalBoundaries extends Boundaries {
    SignalBoundaries(Checks checks, Document document) {
        super(checks, document);
    }

    @Override
    void run() {
        oneTickMore();
        moreThanItsGreatest();
        moreThanItsLeast();
        queueInThatTick();
        queueOfItsSet();
        behindTheLast();
        lastOneMovesOn();
        firstTick();
    }

    private void phaseIs(String when, Turnpike t, int phase, int ticks) {
        checks.due("phaseOf(1) " + when, phase, t.phaseOf(1));
        checks.due("phaseTicks(1) " + when, ticks, t.phaseTicks(1));
    }

    /** A link whose vehicle stays at the END, and a signal of which it is in the first phase. */
    private static Turnpike withQueue(int least, int greatest) {
        Turnpike t = Checks.road(1, 9, 1);
        t.addFlow(0, 1, SET, 0, 1, 1);
        t.slow(0, 0, 200);
        t.step(5);
        t.addPhase(1, 1, least, greatest);
        t.addPhase(1, 0, 40, 40);
        return t;
    }

    private void oneTickMore() {
        terms("(d) SIGNALS, by nodes: the PHASE that is on has been on for one tick more.");
        Turnpike t = withQueue(40, 40);
        Turnpike two = Checks.withNodes(12);
        two.addPhase(11, 0, 1, 1);
        two.addPhase(11, 0, 1, 1);
        two.addPhase(0, 0, 39, 39);
        two.addPhase(0, 0, 1, 1);
        for (int ticks = 1; ticks <= 40; ticks++) {
            t.step(1);
            phaseIs("in its tick " + ticks, t, 0, ticks);
            two.step(1);
            checks.due("phaseOf(11) of two signals", (ticks - 1) % 2, two.phaseOf(11));
            checks.due("phaseOf(0) of two signals", ticks / 40, two.phaseOf(0));
            checks.due("phaseOf(1) without one", -1, two.phaseOf(1));
        }
    }

    private void moreThanItsGreatest() {
        terms("If that is more than its greatest number of ticks,");
        int[][] bounds = {{1, 1}, {1, 2}, {1, 40}, {20, 30}, {39, 40}, {40, 40}};
        for (int[] b : bounds) {
            Turnpike t = withQueue(b[0], b[1]);
            t.step(b[1]);
            phaseIs("with a queue in its greatest tick", t, 0, b[1]);
            t.step(1);
            phaseIs("with a queue behind it", t, 1, 1);
        }
    }

    private void moreThanItsLeast() {
        terms("or if it is more than its least one and no link of its set has a QUEUE,");
        int[][] bounds = {{1, 1}, {1, 2}, {1, 40}, {20, 30}, {39, 40}, {40, 40}};
        for (int[] b : bounds) {
            Turnpike t = Checks.road(1, 9, 1);
            t.addPhase(1, 1, b[0], b[1]);
            t.addPhase(1, 0, 40, 40);
            t.step(b[0]);
            phaseIs("without a queue in its least tick", t, 0, b[0]);
            t.step(1);
            phaseIs("without a queue behind it", t, 1, 1);
        }
    }

    /** In the tick 3 the phase has been on for more than its least 3 ticks. */
    private void queueInThatTick() {
        for (int time = 2; time <= 4; time++) {
            Turnpike t = Checks.road(time, 9, 1);
            t.addPhase(1, 1, 3, 40);
            t.addPhase(1, 0, 40, 40);
            t.addFlow(0, 1, SET, 0, 1, 1);
            t.step(3);
            phaseIs("in its least tick", t, 0, 3);
            t.step(1);
            phaseIs("in the tick 3, at the END from " + time, t, time == 3 ? 0 : 1, time == 3 ? 4 : 1);
            // The queue is gone behind (e), and keeps the phase on no longer.
            t.step(1);
            phaseIs("in the tick 4, at the END from " + time, t, 1, time == 3 ? 1 : 2);
            checks.due("stateOf(0)", time == 4 ? 1 : 2, t.stateOf(0));
        }
    }

    /** A queue on a link that is in the set of another phase, or of none, keeps none on. */
    private void queueOfItsSet() {
        Turnpike t = Checks.withNodes(4);
        t.addLink(0, 1, 1, 9, 1);
        t.addLink(2, 1, 1, 9, 1);
        t.addLink(3, 1, 1, 9, 1);
        t.addLink(1, 3, 1, 9, 1);
        t.addFlow(2, 1, SET, 0, 1, 9);
        t.addPhase(1, 1, 2, 40);
        t.addPhase(1, 0, 1, 40);
        t.addPhase(1, 5, 2, 40);
        t.step(2);
        phaseIs("in the tick 1", t, 0, 2);
        t.step(1);
        phaseIs("in the tick 2", t, 1, 1);
        t.step(1);
        phaseIs("in the tick 3", t, 2, 1);
        checks.due("queue(1)", 4, t.queue(1));
        // The last link of a set keeps it on as well as the first one; shut ones do too.
        t.addFlow(3, 1, SET, 4, 1, 1);
        t.slow(2, 0, 200);
        t.step(2);
        t.shut(2, true);
        t.step(20);
        phaseIs("in the tick 25", t, 2, 23);
        t.slow(2, 1, 200);
        t.step(1);
        phaseIs("in the tick 26, ahead of its going", t, 2, 24);
        t.step(1);
        phaseIs("in the tick 27", t, 0, 1);
    }

    private void behindTheLast() {
        terms("the next PHASE is on (behind the last one the first one), for its first tick.");
        for (int phases = 1; phases <= 4; phases++) {
            Turnpike t = Checks.withNodes(2);
            for (int i = 0; i < phases; i++) {
                t.addPhase(1, 0, i + 1, 40);
            }
            for (int round = 0; round < 3; round++) {
                for (int phase = 0; phase < phases; phase++) {
                    for (int ticks = 1; ticks <= phase + 1; ticks++) {
                        t.step(1);
                        phaseIs("of " + phases + " in round " + round, t, phase, ticks);
                    }
                }
            }
        }
    }

    /** One that comes behind the last one, while that is on, is the next one. */
    private void lastOneMovesOn() {
        Turnpike t = Checks.withNodes(2);
        t.addPhase(1, 0, 3, 3);
        t.step(2);
        t.addPhase(1, 0, 2, 2);
        phaseIs("as another one came", t, 0, 2);
        t.step(1);
        phaseIs("in its last tick", t, 0, 3);
        t.step(1);
        phaseIs("behind it", t, 1, 1);
        t.step(2);
        phaseIs("behind that", t, 0, 1);
    }

    private void firstTick() {
        terms("(In the first tick of a SIGNAL its PHASE 0 is on, for its first tick.)");
        for (int least : new int[] {1, 40}) {
            Turnpike t = Checks.withNodes(2);
            t.step(9);
            t.addPhase(1, 0, least, 40);
            t.addPhase(1, 0, 1, 40);
            phaseIs("ahead of its first tick", t, -1, 0);
            t.step(1);
            phaseIs("in its first tick", t, 0, 1);
            t.step(1);
            phaseIs("in its second tick", t, least == 1 ? 1 : 0, least == 1 ? 1 : 2);
            t.dropSignal(1);
            phaseIs("without it", t, -1, 0);
            t.step(1);
            phaseIs("without it, in a tick", t, -1, 0);
            t.addPhase(1, 0, 2, 40);
            t.addPhase(1, 0, 2, 40);
            phaseIs("of another one, ahead of its first tick", t, -1, 0);
            t.step(1);
            phaseIs("of another one, in its first tick", t, 0, 1);
        }
        // Green already in its first tick.
        Turnpike t = Checks.road(1, 9, 1);
        t.addFlow(0, 1, SET, 0, 1, 1);
        t.step(1);
        t.addPhase(1, 1, 1, 1);
        t.addPhase(1, 0, 40, 40);
        t.step(1);
        checks.due("stateOf(0) in the first tick", 2, t.stateOf(0));
    }
}
