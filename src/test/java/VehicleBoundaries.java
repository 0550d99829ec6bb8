/** Terms, 2: flows and vehicles. */
final class VehicleBoundaries extends Boundaries {
    VehicleBoundaries(Checks checks, Document document) {
        super(checks, document);
    }

    @Override
    void run() {
        flows();
        starts();
        periodsAndCounts();
        atMost200();
        states();
        rows();
        ends();
        queues();
        setChooseAsTheyCome();
        heedingChooseAsTheyGo();
        givenUp();
    }

    private void flows() {
        terms("2 VEHICLES. At most 10 FLOWS, numbered from 0: each has a node from which, another one "
                + "to which, a kind,");
        Turnpike t = Checks.withNodes(12);
        for (int i = 0; i < 10; i++) {
            t.addLink(i, i + 1, 1 + i, 1, 1);
        }
        checks.noArgument("addFlow() to the same node", t, () -> t.addFlow(3, 3, SET, 0, 1, 1));
        checks.noArgument("addFlow() of the kind -1", t, () -> t.addFlow(0, 1, -1, 0, 1, 1));
        checks.noArgument("addFlow() of the kind 2", t, () -> t.addFlow(0, 1, 2, 0, 1, 1));
        for (int i = 0; i < 10; i++) {
            checks.due("addFlow()", i, t.addFlow(i, i + 1, i % 2, 0, 1, 1));
        }
        checks.noState("addFlow() as the 11th", t, () -> t.addFlow(10, 11, HEEDING, 0, 1, 1));
        checks.due("flows()", 10, t.flows());
        t.step(11);
        for (int i = 0; i < 10; i++) {
            checks.due("linkAt() from the node of the flow " + i, i, t.linkAt(i, 0));
            checks.due("ofFlow(" + i + ", 3)", 1 + i, t.ofFlow(i, 3));
        }
        checks.due("vehicles()", 10, t.vehicles());
    }

    private void starts() {
        terms("a start,");
        for (int ahead : new int[] {0, 1, 499, 500}) {
            Turnpike t = Checks.withNodes(2);
            t.step(7);
            t.addFlow(0, 1, HEEDING, 7 + ahead, 1, 1);
            Checks.step(t, ahead);
            checks.due("vehicles() ahead of a start " + ahead + " from then", 0, t.vehicles());
            t.step(1);
            checks.due("vehicles() in it", 1, t.vehicles());
        }
        Turnpike t = Checks.withNodes(2);
        t.step(7);
        checks.noArgument("addFlow() from the tick before", t, () -> t.addFlow(0, 1, SET, 6, 1, 1));
        checks.noArgument("addFlow() from 501 above", t, () -> t.addFlow(0, 1, SET, 508, 1, 1));
    }

    private void periodsAndCounts() {
        terms("a period (1 to 30) and a count (1 to 40): it brings a vehicle in each tick "
                + "t = start + k * period, for k from 0 to count - 1.");
        int[][] flows = {{1, 1}, {1, 40}, {2, 40}, {29, 39}, {30, 1}, {30, 2}, {30, 40}};
        for (int[] flow : flows) {
            broughtBy(flow[0], flow[1]);
        }
        Turnpike t = Checks.withNodes(2);
        checks.noArgument("addFlow() of period 0", t, () -> t.addFlow(0, 1, SET, 0, 0, 1));
        checks.noArgument("addFlow() of period 31", t, () -> t.addFlow(0, 1, SET, 0, 31, 1));
        checks.noArgument("addFlow() of 0", t, () -> t.addFlow(0, 1, SET, 0, 1, 0));
        checks.noArgument("addFlow() of 41", t, () -> t.addFlow(0, 1, SET, 0, 1, 41));
    }

    private void broughtBy(int period, int count) {
        Turnpike t = Checks.withNodes(2);
        t.addFlow(0, 1, SET, 3, period, count);
        t.step(3);
        for (int k = 0; k < count; k++) {
            String of = " of period " + period + ", count " + count + ", at k = " + k;
            checks.due("ofFlow() ahead" + of, k, t.ofFlow(0, 0));
            t.step(1);
            checks.due("ofFlow()" + of, k + 1, t.ofFlow(0, 0));
            Checks.step(t, period - 1);
        }
        t.step(60);
        checks.due("ofFlow() of period " + period + ", count " + count, count, t.ofFlow(0, 0));
    }

    private void atMost200() {
        terms("At most 200 vehicles come, numbered from 0.");
        Turnpike t = Checks.road(1, 30, 3);
        for (int i = 0; i < 4; i++) {
            t.addFlow(0, 1, HEEDING, 0, 1, 40);
        }
        t.addFlow(0, 1, HEEDING, 0, 1, 39);
        t.addFlow(0, 1, SET, 40, 1, 1);
        t.addFlow(0, 1, SET, 40, 1, 1);
        t.addFlow(0, 1, SET, 260, 1, 40);
        t.step(40);
        checks.due("vehicles() of 199", 199, t.vehicles());
        checks.noIndex("stateOf(199) ahead", t, () -> t.stateOf(199));
        t.step(1);
        checks.due("vehicles() of 201", 200, t.vehicles());
        checks.due("ofFlow(5, 0), which brought the last one", 1, t.ofFlow(5, 0));
        checks.due("ofFlow(6, 0) in the same tick", 0, t.ofFlow(6, 0));
        checks.due("stateOf(199)", 0, t.stateOf(199));
        checks.noIndex("stateOf(200)", t, () -> t.stateOf(200));
        // Also when all of them have arrived, none comes.
        Checks.step(t, 259);
        checks.due("stateOf(199)", 2, t.stateOf(199));
        checks.due("vehicles() behind them", 200, t.vehicles());
        checks.due("ofFlow(7, 0)", 0, t.ofFlow(7, 0));
    }

    private void states() {
        terms("A vehicle is WAITING at its first node (0), ON a link (1), ARRIVED (2) or GIVEN UP (3).");
        Turnpike t = some();
        int[] states = {2, 1, 3, 0};
        for (int vehicle = 0; vehicle < 4; vehicle++) {
            checks.due("stateOf(" + vehicle + ")", states[vehicle], t.stateOf(vehicle));
        }
        t.step(4);
        checks.due("stateOf(1) later", 2, t.stateOf(1));
        checks.due("stateOf(2) later", 3, t.stateOf(2));
        checks.due("stateOf(3) later", 2, t.stateOf(3));
    }

    /** In the tick 1 the link 1 is ahead of the link 0, and both are ahead of the one that waits. */
    private void rows() {
        terms("On a link vehicles are in a row, as they came.");
        Turnpike t = Checks.withNodes(4);
        t.addLink(0, 2, 1, 9, 1);
        t.addLink(1, 2, 1, 9, 1);
        t.addLink(2, 3, 20, 30, 1);
        t.addFlow(0, 3, SET, 0, 1, 1);
        t.addFlow(1, 3, SET, 0, 1, 1);
        t.addFlow(2, 3, SET, 1, 1, 1);
        t.step(2);
        int[] row = {1, 0, 2};
        for (int place = 0; place < 3; place++) {
            checks.due("vehicleAt(2, " + place + ")", row[place], t.vehicleAt(2, place));
        }
        checks.noIndex("vehicleAt(2, 3)", t, () -> t.vehicleAt(2, 3));
        t.step(20);
        checks.due("vehicleAt(2, 0) as the first one is gone", 0, t.vehicleAt(2, 0));
    }

    private void ends() {
        terms("One that comes onto a link in the tick t is at its END from the tick t + its time on.");
        for (int time = 1; time <= 20; time++) {
            Turnpike t = Checks.road(time, 1, 1);
            t.addPhase(1, 0, 40, 40);
            t.addFlow(0, 1, SET, 5, 1, 1);
            t.step(6);
            for (int tick = 6; tick < 5 + time; tick++) {
                checks.due("queue() in the tick " + tick, 0, t.queue(0));
                t.step(1);
            }
            checks.due("endOf(0)", 5 + time, t.endOf(0));
            checks.due("clock()", 5 + time, t.clock());
            checks.due("queue() in that tick", 1, t.queue(0));
            t.step(9);
            checks.due("queue() from then on", 1, t.queue(0));
            checks.due("endOf(0) from then on", 5 + time, t.endOf(0));
        }
    }

    private void queues() {
        terms("The QUEUE of a link is how many of its vehicles are at its END.");
        Turnpike t = Checks.road(10, 30, 1);
        t.addPhase(1, 0, 40, 40);
        checks.due("queue() of none", 0, t.queue(0));
        t.addFlow(0, 1, SET, 0, 1, 40);
        t.step(10);
        for (int queued = 1; queued <= 30; queued++) {
            checks.due("queue() in the tick " + t.clock(), queued, t.queue(0));
            checks.due("onLink()", Math.min(30, 9 + queued), t.onLink(0));
            t.step(1);
        }
        t.step(20);
        checks.due("queue() of a full one", 30, t.queue(0));
    }

    /** As the vehicle 1 comes both links cost 2; from the next tick on the link 0 costs 3. */
    private static Turnpike fullFirstChoice(int kind) {
        Turnpike t = Checks.withNodes(2);
        t.addLink(0, 1, 2, 1, 1);
        t.addLink(0, 1, 2, 1, 1);
        t.addPhase(1, 0, 40, 40);
        t.addFlow(0, 1, kind, 0, 1, 2);
        t.step(2);
        return t;
    }

    /** The link 2 comes as the vehicle is on the link 0. */
    private static Turnpike betterWayComes(int kind) {
        Turnpike t = Checks.withNodes(3);
        t.addLink(0, 1, 3, 9, 1);
        t.addLink(1, 2, 2, 9, 1);
        t.addFlow(0, 2, kind, 0, 1, 1);
        t.step(2);
        t.addLink(1, 2, 1, 9, 1);
        t.step(2);
        return t;
    }

    private void setChooseAsTheyCome() {
        terms("Vehicles of the kind 0 (SET) choose their whole way as they come, by the COSTS of then;");
        Turnpike t = fullFirstChoice(SET);
        checks.due("stateOf(1) as the first choice is full", 0, t.stateOf(1));
        t.step(10);
        checks.due("nextLink(0, 1)", 1, t.nextLink(0, 1));
        checks.due("stateOf(1) ahead of its first choice", 0, t.stateOf(1));
        t.dropSignal(1);
        t.step(1);
        checks.due("linkOf(1) with room there", 0, t.linkOf(1));
        Turnpike u = betterWayComes(SET);
        checks.due("nextLink(1, 2)", 2, u.nextLink(1, 2));
        checks.due("linkOf(0) of its whole way", 1, u.linkOf(0));
    }

    private void heedingChooseAsTheyGo() {
        terms("those of the kind 1 (HEEDING) choose their next link whenever they are to go on, by the "
                + "COSTS of then.");
        Turnpike t = fullFirstChoice(HEEDING);
        checks.due("stateOf(1) as the first choice is full", 0, t.stateOf(1));
        t.step(1);
        checks.due("linkOf(1) as the other one costs less", 1, t.linkOf(1));
        checks.due("endOf(1)", 4, t.endOf(1));
        Turnpike u = betterWayComes(HEEDING);
        checks.due("linkOf(0) over what came", 2, u.linkOf(0));
    }

    private void givenUp() {
        terms("A vehicle of the kind 0 that finds no way as it comes is GIVEN UP at once.");
        Turnpike t = Checks.withNodes(3);
        t.addLink(0, 1, 1, 9, 1);
        t.addLink(2, 1, 1, 9, 1);
        t.addFlow(0, 2, SET, 0, 5, 3);
        t.addFlow(0, 2, HEEDING, 0, 5, 1);
        t.step(1);
        checks.due("stateOf() of the kind 0 in its tick", 3, t.stateOf(0));
        checks.due("stateOf() of the kind 1 in its tick", 0, t.stateOf(1));
        checks.due("waiting(0)", 1, t.waiting(0));
        t.addLink(1, 2, 1, 9, 1);
        t.shut(2, true);
        t.step(5);
        checks.due("stateOf() over a shut link, kind 0", 3, t.stateOf(2));
        checks.due("stateOf() over a shut link, kind 1", 0, t.stateOf(1));
        t.shut(2, false);
        t.step(5);
        checks.due("stateOf() with a way, kind 0 of before", 3, t.stateOf(0));
        checks.due("stateOf() with a way, kind 1 of before", 2, t.stateOf(1));
        // One that has found its way is not given up as that is shut.
        checks.due("stateOf(3) on its way", 1, t.stateOf(3));
        t.shut(2, true);
        t.step(20);
        checks.due("stateOf(3) ahead of a shut link", 1, t.stateOf(3));
        noLinksAtAll();
    }

    private void noLinksAtAll() {
        Turnpike t = Checks.withNodes(2);
        t.addFlow(0, 1, SET, 0, 1, 1);
        t.addFlow(1, 0, HEEDING, 0, 1, 1);
        t.step(1);
        checks.due("stateOf() without links, kind 0", 3, t.stateOf(0));
        checks.due("stateOf() without links, kind 1", 0, t.stateOf(1));
        checks.due("waiting(1)", 1, t.waiting(1));
    }
}
