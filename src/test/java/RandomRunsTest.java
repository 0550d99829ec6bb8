/**
 * Long runs of calls on the class and on the Model, whose answers must be the same. The calls are
 * drawn by a small generator of our own, so that each run is the same each time.
 */
public final class RandomRunsTest {
    private static final int RUNS = 240;
    private static final int CALLS = 512;

    private final Checks checks;
    private final Model model = new Model();
    private final Turnpike real = new Turnpike();
    private final int run;
    private long seed;
    private int calls;

    private RandomRunsTest(Checks checks, int run) {
        this.checks = checks;
        this.run = run;
        this.seed = run * 7919L + 12345;
    }

    public static void main(String[] args) {
        Checks checks = new Checks("RandomRunsTest");
        for (int run = 0; run < RUNS; run++) {
            new RandomRunsTest(checks, run).play();
        }
        checks.end();
    }

    private int draw(int below) {
        seed = seed * 6364136223846793005L + 1442695040888963407L;
        return (int) ((seed >>> 33) % below);
    }

    private int draw(int least, int greatest) {
        return least + draw(greatest - least + 1);
    }

    private boolean isRare(int oneOf) {
        return draw(oneOf) == 0;
    }

    private void due(String call, long want, long got) {
        calls++;
        checks.due("run " + run + ", call " + calls + ": " + call, want, got);
    }

    private void play() {
        build();
        while (calls < CALLS - 40) {
            change();
            step();
            ask();
            if (isRare(3)) {
                due("digest()", model.digest(), real.digest());
            }
        }
        askAll();
        due("digest()", model.digest(), real.digest());
    }

    private void build() {
        int nodes = isRare(4) ? 12 : draw(2, 6);
        for (int i = 0; i < nodes; i++) {
            addNode();
        }
        int links = isRare(4) ? 24 : draw(nodes, Math.min(24, 3 * nodes));
        for (int i = 0; i < links; i++) {
            addLink();
        }
        int signals = draw(nodes);
        for (int i = 0; i < signals; i++) {
            addPhase();
            addPhase();
        }
        int flows = draw(1, 6);
        for (int i = 0; i < flows; i++) {
            addFlow();
        }
    }

    private void change() {
        switch (draw(16)) {
            case 0:
                addNode();
                break;
            case 1:
                addLink();
                break;
            case 2:
                addPhase();
                break;
            case 3:
                dropSignal();
                break;
            case 4:
                setRefresh();
                break;
            case 5:
            case 6:
                shut();
                break;
            case 7:
            case 8:
                slow();
                break;
            case 9:
            case 10:
            case 11:
                addFlow();
                break;
            default:
                break;
        }
    }

    private void addNode() {
        if (model.nodes.size() < 12) {
            due("addNode()", model.nodes.size(), real.addNode());
            model.nodes.add(new Model.N());
        }
    }

    private int node() {
        return draw(model.nodes.size());
    }

    private int link() {
        return draw(model.links.size());
    }

    private int otherNode(int node) {
        return (node + draw(1, model.nodes.size() - 1)) % model.nodes.size();
    }

    /** The first links make a ring, so that most nodes are to be reached. */
    private void addLink() {
        int number = model.links.size();
        int nodes = model.nodes.size();
        if (number >= 24) {
            return;
        }
        int from = number < nodes && run % 3 != 0 ? number : node();
        int to = number < nodes && run % 3 != 0 ? (number + 1) % nodes : otherNode(from);
        int time = isRare(4) ? draw(1, 20) : draw(1, 3);
        int room = isRare(4) ? draw(1, 30) : draw(1, 4);
        int rate = draw(1, 3);
        due("addLink", number, real.addLink(from, to, time, room, rate));
        model.addLink(from, to, time, room, rate);
    }

    private void addPhase() {
        int node = node();
        int phases = model.nodes.get(node).phases.size();
        if (phases >= 4) {
            return;
        }
        int set = 0;
        for (int i = 0; i < model.links.size(); i++) {
            if (model.links.get(i).to == node && !isRare(3)) {
                set |= 1 << i;
            }
        }
        int least = isRare(5) ? draw(1, 40) : draw(1, 4);
        int greatest = isRare(5) ? draw(least, 40) : Math.min(40, least + draw(4));
        due("addPhase", phases, real.addPhase(node, set, least, greatest));
        model.addPhase(node, set, least, greatest);
    }

    private void dropSignal() {
        int node = node();
        due("dropSignal", model.nodes.get(node).phases.size(), real.dropSignal(node));
        model.dropSignal(node);
    }

    private void setRefresh() {
        int refresh = isRare(3) ? draw(1, 30) : draw(1, 4);
        due("setRefresh", model.refresh, real.setRefresh(refresh));
        model.refresh = refresh;
    }

    private void shut() {
        int link = link();
        boolean isShut = !isRare(2);
        due("shut", model.links.get(link).isShut ? 1 : 0, real.shut(link, isShut) ? 1 : 0);
        model.links.get(link).isShut = isShut;
    }

    private void slow() {
        int link = link();
        int rate = draw(4);
        int ticks = isRare(4) ? draw(1, 200) : draw(1, 12);
        due("slow", model.links.get(link).rate(), real.slow(link, rate, ticks));
        model.slow(link, rate, ticks);
    }

    private void addFlow() {
        int number = model.flows.size();
        if (number >= 10) {
            return;
        }
        int from = node();
        int to = otherNode(from);
        int kind = draw(2);
        int start = model.clock + (isRare(6) ? draw(501) : draw(6));
        int period = isRare(4) ? draw(1, 30) : draw(1, 3);
        int count = isRare(4) ? draw(1, 40) : draw(20, 40);
        due("addFlow", number, real.addFlow(from, to, kind, start, period, count));
        model.addFlow(from, to, kind, start, period, count);
    }

    private void step() {
        int ticks = isRare(12) ? draw(1, 60) : isRare(3) ? 1 : draw(1, 6);
        for (int i = 0; i < ticks; i++) {
            model.tick();
        }
        due("step(" + ticks + ")", model.clock, real.step(ticks));
    }

    private void ask() {
        for (int i = 0; i < 3; i++) {
            askLink(link());
            askNodes(node(), node());
            if (!model.vehicles.isEmpty()) {
                askVehicle(draw(model.vehicles.size()));
            }
        }
        if (isRare(3)) {
            int ticks = draw(1, 60);
            due("emptyIn(" + ticks + ")", model.emptyIn(ticks), real.emptyIn(ticks));
        }
    }

    private void askLink(int link) {
        Model.L l = model.links.get(link);
        due("queue(" + link + ")", l.queue(model.clock), real.queue(link));
        due("costOf(" + link + ")", l.cost, real.costOf(link));
        for (int place = 0; place < l.on.size(); place++) {
            due("vehicleAt(" + link + ", " + place + ")", l.on.get(place).number, real.vehicleAt(link, place));
        }
    }

    private void askNodes(int from, int to) {
        int without = link();
        due("distance", model.distance(from, to, -1), real.distance(from, to));
        due("distanceWithout", model.distance(from, to, without), real.distanceWithout(without, from, to));
        due("nextLink", model.nextLink(from, to), real.nextLink(from, to));
    }

    private void askVehicle(int vehicle) {
        Model.V v = model.vehicles.get(vehicle);
        int ticks = draw(1, 60);
        due("arrivesIn(" + vehicle + ", " + ticks + ")", model.arrivesIn(vehicle, ticks),
                real.arrivesIn(vehicle, ticks));
        if (!v.over.isEmpty()) {
            int place = draw(v.over.size());
            due("linkAt(" + vehicle + ", " + place + ")", v.over.get(place), real.linkAt(vehicle, place));
        }
    }

    /** The last look at an object may take more calls than it is promised for: none changes it. */
    private void askAll() {
        for (Model.V v : model.vehicles) {
            due("stateOf", v.state, real.stateOf(v.number));
            due("linkOf", v.link, real.linkOf(v.number));
            due("endOf", v.end, real.endOf(v.number));
            due("linksOf", v.over.size(), real.linksOf(v.number));
            due("tripOf", model.trip(v), real.tripOf(v.number));
            due("delayOf", model.delay(v), real.delayOf(v.number));
            for (int place = 0; place < v.over.size(); place++) {
                due("linkAt", v.over.get(place), real.linkAt(v.number, place));
            }
        }
        for (int link = 0; link < model.links.size(); link++) {
            askAllOfLink(link);
        }
        for (int flow = 0; flow < model.flows.size(); flow++) {
            for (int what = 0; what < 6; what++) {
                due("ofFlow(" + flow + ", " + what + ")", model.ofFlow(flow, what), real.ofFlow(flow, what));
            }
        }
        checks.dueDouble("run " + run + ": meanTrip()", model.meanTrip(), real.meanTrip());
    }

    private void askAllOfLink(int link) {
        Model.L l = model.links.get(link);
        due("isShut", l.isShut ? 1 : 0, real.isShut(link) ? 1 : 0);
        due("rateOf", l.rate(), real.rateOf(link));
        due("onLink", l.on.size(), real.onLink(link));
        for (int what = 0; what < 4; what++) {
            due("count(" + link + ", " + what + ")", model.count(link, what), real.count(link, what));
        }
        for (int next = 0; next < model.links.size(); next++) {
            due("turned(" + link + ", " + next + ")", l.turned[next], real.turned(link, next));
        }
    }
}
