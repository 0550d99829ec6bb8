import java.util.ArrayList;
import java.util.Collections;
import java.util.List;

/**
 * The document once more, word by word and without a thought of speed: nothing is kept that can
 * be found out anew. It looks at no argument; whoever asks it must ask rightly.
 */
final class Model {
    static final int FAR = 1_000_000;

    static final class L {
        int from, to, time, room, firstRate, slowRate, slowTicks, cost;
        boolean isShut, isSlowed;
        int came, left, greatest, sum;
        final int[] turned = new int[24];
        final List<V> on = new ArrayList<>();

        int rate() {
            return isSlowed ? slowRate : firstRate;
        }

        int queue(int tick) {
            return (int) on.stream().filter(v -> v.end <= tick).count();
        }
    }

    static final class P {
        int set, least, greatest;
    }

    static final class N {
        final List<P> phases = new ArrayList<>();
        int phase = -1;
        int ticks;
        final List<V> waiting = new ArrayList<>();
    }

    static final class F {
        int from, to, kind, start, period, count;
    }

    static final class V {
        int number, state, came, arrived, link = -1, end = -1;
        F flow;
        List<Integer> way = new ArrayList<>();
        List<Integer> over = new ArrayList<>();
    }

    int clock;
    int refresh = 1;
    final List<N> nodes = new ArrayList<>();
    final List<L> links = new ArrayList<>();
    final List<F> flows = new ArrayList<>();
    final List<V> vehicles = new ArrayList<>();

    void addLink(int from, int to, int time, int room, int rate) {
        L l = new L();
        l.from = from;
        l.to = to;
        l.time = time;
        l.room = room;
        l.firstRate = rate;
        l.cost = time;
        links.add(l);
    }

    void addPhase(int node, int set, int least, int greatest) {
        P p = new P();
        p.set = set;
        p.least = least;
        p.greatest = greatest;
        nodes.get(node).phases.add(p);
    }

    void dropSignal(int node) {
        nodes.get(node).phases.clear();
        nodes.get(node).phase = -1;
        nodes.get(node).ticks = 0;
    }

    void slow(int link, int rate, int ticks) {
        L l = links.get(link);
        l.isSlowed = true;
        l.slowRate = rate;
        l.slowTicks = ticks;
    }

    void addFlow(int from, int to, int kind, int start, int period, int count) {
        F f = new F();
        f.from = from;
        f.to = to;
        f.kind = kind;
        f.start = start;
        f.period = period;
        f.count = count;
        flows.add(f);
    }

    /** Each node's least sum of costs to a node, the nearest node first. */
    int[] distances(int to, int without) {
        int[] sums = new int[nodes.size()];
        java.util.Arrays.fill(sums, FAR);
        sums[to] = 0;
        boolean[] done = new boolean[nodes.size()];
        for (int turn = 0; turn < nodes.size(); turn++) {
            int nearest = -1;
            for (int n = 0; n < nodes.size(); n++) {
                if (!done[n] && (nearest < 0 || sums[n] < sums[nearest])) {
                    nearest = n;
                }
            }
            done[nearest] = true;
            for (L l : links) {
                if (l.to == nearest && !l.isShut && links.indexOf(l) != without) {
                    sums[l.from] = Math.min(sums[l.from], sums[nearest] + l.cost);
                }
            }
        }
        return sums;
    }

    int distance(int from, int to, int without) {
        int sum = distances(to, without)[from];
        return sum >= FAR ? -1 : sum;
    }

    int nextLink(int from, int to) {
        int[] sums = distances(to, -1);
        if (from == to || sums[from] >= FAR) {
            return -1;
        }
        int best = -1;
        int least = FAR;
        for (int i = 0; i < links.size(); i++) {
            L l = links.get(i);
            if (l.from == from && !l.isShut && sums[l.to] + l.cost < least) {
                least = sums[l.to] + l.cost;
                best = i;
            }
        }
        return best;
    }

    void tick() {
        for (L l : links) {
            if (l.isSlowed) {
                if (l.slowTicks == 0) {
                    l.isSlowed = false;
                } else {
                    l.slowTicks--;
                }
            }
        }
        if (clock % refresh == 0) {
            for (L l : links) {
                int q = l.queue(clock);
                int r = l.rate();
                l.cost = l.time + (r == 0 ? 10 * q : q / r + (q % r == 0 ? 0 : 1));
            }
        }
        for (F f : flows) {
            for (int k = 0; k < f.count; k++) {
                if (f.start + k * f.period == clock && vehicles.size() < 200) {
                    come(f);
                }
            }
        }
        for (N n : nodes) {
            if (!n.phases.isEmpty()) {
                playSignal(n);
            }
        }
        for (int i = 0; i < links.size(); i++) {
            int number = (clock + i) % links.size();
            L l = links.get(number);
            for (int k = 0; k < l.rate() && isGreen(number); k++) {
                if (!goesOn(l)) {
                    break;
                }
            }
        }
        for (int n = 0; n < nodes.size(); n++) {
            List<V> row = nodes.get(n).waiting;
            if (!row.isEmpty() && goesOnto(row.get(0), nextOf(row.get(0), n))) {
                row.remove(0);
            }
        }
        for (L l : links) {
            int q = l.queue(clock);
            l.sum += q;
            l.greatest = Math.max(l.greatest, q);
        }
        clock++;
    }

    private void come(F f) {
        V v = new V();
        v.number = vehicles.size();
        v.flow = f;
        v.came = clock;
        vehicles.add(v);
        if (f.kind == 0) {
            int node = f.from;
            while (node != f.to) {
                int next = nextLink(node, f.to);
                if (next < 0) {
                    v.state = 3;
                    return;
                }
                v.way.add(next);
                node = links.get(next).to;
            }
        }
        nodes.get(f.from).waiting.add(v);
    }

    private void playSignal(N n) {
        if (n.phase < 0) {
            n.phase = 0;
            n.ticks = 1;
            return;
        }
        P p = n.phases.get(n.phase);
        boolean isQueued = false;
        for (int i = 0; i < links.size(); i++) {
            isQueued |= (p.set & 1 << i) != 0 && links.get(i).queue(clock) > 0;
        }
        n.ticks++;
        if (n.ticks > p.greatest || n.ticks > p.least && !isQueued) {
            n.phase = (n.phase + 1) % n.phases.size();
            n.ticks = 1;
        }
    }

    private boolean isGreen(int link) {
        N n = nodes.get(links.get(link).to);
        return n.phases.isEmpty() || (n.phases.get(n.phase).set & 1 << link) != 0;
    }

    private int nextOf(V v, int node) {
        if (v.flow.kind == 1) {
            return nextLink(node, v.flow.to);
        }
        return v.over.size() < v.way.size() ? v.way.get(v.over.size()) : -1;
    }

    private boolean goesOn(L l) {
        if (l.on.isEmpty() || l.on.get(0).end > clock) {
            return false;
        }
        V v = l.on.get(0);
        if (l.to == v.flow.to) {
            v.state = 2;
            v.arrived = clock;
            v.link = -1;
            v.end = -1;
        } else {
            int next = nextOf(v, l.to);
            if (!goesOnto(v, next)) {
                return false;
            }
            l.turned[next]++;
        }
        l.left++;
        l.on.remove(0);
        return true;
    }

    private boolean goesOnto(V v, int next) {
        if (next < 0 || links.get(next).isShut || links.get(next).on.size() >= links.get(next).room) {
            return false;
        }
        L l = links.get(next);
        v.state = 1;
        v.link = next;
        v.end = clock + l.time;
        v.over.add(next);
        l.on.add(v);
        l.came++;
        return true;
    }

    int trip(V v) {
        return v.state == 2 ? v.arrived - v.came : -1;
    }

    int delay(V v) {
        return v.state == 2 ? trip(v) - v.over.stream().mapToInt(l -> links.get(l).time).sum() : -1;
    }

    int ofFlow(int flow, int what) {
        List<V> its = new ArrayList<>();
        List<V> arrived = new ArrayList<>();
        for (V v : vehicles) {
            if (v.flow == flows.get(flow)) {
                its.add(v);
                if (v.state == 2) {
                    arrived.add(v);
                }
            }
        }
        switch (what) {
            case 0:
                return its.size();
            case 1:
                return arrived.size();
            case 2:
                return (int) its.stream().filter(v -> v.state == 3).count();
            case 3:
                return arrived.stream().mapToInt(this::trip).sum();
            case 4:
                return arrived.stream().mapToInt(this::delay).sum();
            default:
                return arrived.isEmpty() ? 0 : Collections.max(arrived.stream().map(this::trip).toList());
        }
    }

    int count(int link, int what) {
        L l = links.get(link);
        return new int[] {l.came, l.left, l.greatest, l.sum}[what];
    }

    double meanTrip() {
        return vehicles.stream().filter(v -> v.state == 2).mapToInt(this::trip).average().orElse(0);
    }

    private boolean isEmpty() {
        return vehicles.stream().allMatch(v -> v.state > 1);
    }

    int arrivesIn(int vehicle, int ticks) {
        Model would = copy();
        for (int i = 0; i <= ticks; i++) {
            if (would.vehicles.get(vehicle).state == 2) {
                return i;
            }
            would.tick();
        }
        return -1;
    }

    int emptyIn(int ticks) {
        Model would = copy();
        for (int i = 0; i <= ticks; i++) {
            if (would.isEmpty()) {
                return i;
            }
            would.tick();
        }
        return -1;
    }

    long digest() {
        List<Integer> x = new ArrayList<>(
                List.of(clock, nodes.size(), links.size(), flows.size(), vehicles.size()));
        for (int n = 0; n < nodes.size(); n++) {
            x.addAll(List.of(nodes.get(n).phase, nodes.get(n).ticks, nodes.get(n).waiting.size()));
            for (int to = 0; to < nodes.size(); to++) {
                x.addAll(List.of(distance(n, to, -1), nextLink(n, to)));
            }
        }
        for (int i = 0; i < links.size(); i++) {
            L l = links.get(i);
            x.addAll(List.of(l.isShut ? 1 : 0, l.rate(), l.cost, l.on.size()));
            l.on.forEach(v -> x.add(v.number));
            x.addAll(List.of(l.queue(clock), l.came, l.left, l.greatest, l.sum));
            for (int next = 0; next < links.size(); next++) {
                x.add(l.turned[next]);
            }
        }
        for (int f = 0; f < flows.size(); f++) {
            for (int what = 0; what < 6; what++) {
                x.add(ofFlow(f, what));
            }
        }
        for (V v : vehicles) {
            x.addAll(List.of(v.state, v.link, v.end, v.over.size(), trip(v), delay(v)));
        }
        return x.stream().mapToLong(Integer::longValue).reduce(58038, (d, y) -> d * 31 + y);
    }

    private Model copy() {
        Model m = new Model();
        m.clock = clock;
        m.refresh = refresh;
        m.flows.addAll(flows);
        for (V v : vehicles) {
            m.vehicles.add(copyOf(v));
        }
        for (L l : links) {
            m.links.add(copyOf(l, m));
        }
        for (N n : nodes) {
            N c = new N();
            c.phases.addAll(n.phases);
            c.phase = n.phase;
            c.ticks = n.ticks;
            n.waiting.forEach(v -> c.waiting.add(m.vehicles.get(v.number)));
            m.nodes.add(c);
        }
        return m;
    }

    private static V copyOf(V v) {
        V c = new V();
        c.number = v.number;
        c.state = v.state;
        c.came = v.came;
        c.arrived = v.arrived;
        c.link = v.link;
        c.end = v.end;
        c.flow = v.flow;
        c.way.addAll(v.way);
        c.over.addAll(v.over);
        return c;
    }

    private static L copyOf(L l, Model m) {
        L c = new L();
        c.from = l.from;
        c.to = l.to;
        c.time = l.time;
        c.room = l.room;
        c.firstRate = l.firstRate;
        c.slowRate = l.slowRate;
        c.slowTicks = l.slowTicks;
        c.cost = l.cost;
        c.isShut = l.isShut;
        c.isSlowed = l.isSlowed;
        l.on.forEach(v -> c.on.add(m.vehicles.get(v.number)));
        return c;
    }
}
