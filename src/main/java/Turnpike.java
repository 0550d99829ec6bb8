import java.util.Arrays;

/**
 * A simulator of traffic: nodes, links and signals are told, and flows of vehicles from node to
 * node; ticks go by, in which the vehicles drive, queue, wait for green and for room, and find
 * their ways by what is known of the links.
 */
public final class Turnpike {
    private static final int MOST_NODES = 12;
    private static final int MOST_LINKS = 24;
    private static final int MOST_TIME = 20;
    private static final int MOST_ROOM = 30;
    private static final int MOST_RATE = 3;
    private static final int MOST_PHASES = 4;
    private static final int MOST_PHASE_TICKS = 40;
    private static final int MOST_FLOWS = 10;
    private static final int MOST_PERIOD = 30;
    private static final int MOST_OF_A_FLOW = 40;
    private static final int MOST_AHEAD = 500;
    private static final int MOST_VEHICLES = 200;
    private static final int MOST_REFRESH = 30;
    private static final int MOST_SLOW_TICKS = 200;
    private static final int MOST_TICKS = 60;
    private static final int MOST_CALLS = 512;

    private static final int WAITING = 0;
    private static final int ON = 1;
    private static final int ARRIVED = 2;
    private static final int GIVEN_UP = 3;

    private static final int SET = 0;
    private static final int HEEDING = 1;

    private static final int NONE = -1;

    private final Traffic now = new Traffic(true);
    // What would be is played here: made once, so that asking makes nothing.
    private final Traffic trial = new Traffic(false);

    public Turnpike() {
    }

    // ---- the network

    public int addNode() throws IllegalStateException {
        if (now.nodes >= MOST_NODES) {
            throw new IllegalStateException("there are as many nodes as there can be");
        }
        return now.nodes++;
    }

    public int addLink(int from, int to, int time, int room, int rate)
            throws IndexOutOfBoundsException, IllegalArgumentException, IllegalStateException {
        checkNode(from);
        checkNode(to);
        checkArgument(from != to);
        checkArgument(isWithin(time, 1, MOST_TIME));
        checkArgument(isWithin(room, 1, MOST_ROOM));
        checkArgument(isWithin(rate, 1, MOST_RATE));
        if (now.roads.links >= MOST_LINKS) {
            throw new IllegalStateException("there are as many links as there can be");
        }
        return now.roads.lay(from, to, time, room, rate);
    }

    public int addPhase(int node, int links, int least, int greatest)
            throws IndexOutOfBoundsException, IllegalArgumentException, IllegalStateException {
        checkNode(node);
        checkArgument(links >= 0 && now.roads.allLeadTo(node, links));
        checkArgument(isWithin(least, 1, MOST_PHASE_TICKS));
        checkArgument(isWithin(greatest, least, MOST_PHASE_TICKS));
        Signal signal = now.signal[node];
        if (signal.phases >= MOST_PHASES) {
            throw new IllegalStateException("there are as many phases as there can be");
        }
        return signal.append(links, least, greatest);
    }

    public int dropSignal(int node) throws IndexOutOfBoundsException {
        checkNode(node);
        Signal signal = now.signal[node];
        int had = signal.phases;
        signal.clear();
        return had;
    }

    public int setRefresh(int refresh) throws IllegalArgumentException {
        checkArgument(isWithin(refresh, 1, MOST_REFRESH));
        int before = now.refresh;
        now.refresh = refresh;
        return before;
    }

    public boolean shut(int link, boolean isShut) throws IndexOutOfBoundsException {
        Link found = linkNumbered(link);
        boolean was = found.shut;
        if (was != isShut) {
            found.shut = isShut;
            now.roads.forgetWays();
        }
        return was;
    }

    public int slow(int link, int rate, int ticks)
            throws IndexOutOfBoundsException, IllegalArgumentException {
        Link found = linkNumbered(link);
        checkArgument(isWithin(rate, 0, MOST_RATE));
        checkArgument(isWithin(ticks, 1, MOST_SLOW_TICKS));
        int had = found.rate;
        found.rate = rate;
        found.slowTicks = ticks;
        return had;
    }

    public int addFlow(int from, int to, int kind, int start, int period, int count)
            throws IndexOutOfBoundsException, IllegalArgumentException, IllegalStateException {
        checkNode(from);
        checkNode(to);
        checkArgument(from != to);
        checkArgument(isWithin(kind, SET, HEEDING));
        checkArgument(isWithin(start, now.clock, now.clock + MOST_AHEAD));
        checkArgument(isWithin(period, 1, MOST_PERIOD));
        checkArgument(isWithin(count, 1, MOST_OF_A_FLOW));
        if (now.flows >= MOST_FLOWS) {
            throw new IllegalStateException("there are as many flows as there can be");
        }
        now.flow[now.flows].tell(from, to, kind, start, period, count);
        return now.flows++;
    }

    public int step(int ticks) throws IllegalArgumentException {
        checkTicks(ticks);
        for (int i = 0; i < ticks; i++) {
            now.tick();
        }
        return now.clock;
    }

    // ---- asking the network

    public int clock() {
        return now.clock;
    }

    public int nodes() {
        return now.nodes;
    }

    public int links() {
        return now.roads.links;
    }

    public int flows() {
        return now.flows;
    }

    public boolean isShut(int link) throws IndexOutOfBoundsException {
        return linkNumbered(link).shut;
    }

    public int rateOf(int link) throws IndexOutOfBoundsException {
        return linkNumbered(link).rate;
    }

    public int costOf(int link) throws IndexOutOfBoundsException {
        return linkNumbered(link).cost;
    }

    public int phaseOf(int node) throws IndexOutOfBoundsException {
        checkNode(node);
        return now.signal[node].phase;
    }

    public int phaseTicks(int node) throws IndexOutOfBoundsException {
        checkNode(node);
        return now.signal[node].ticks;
    }

    public int distance(int from, int to) throws IndexOutOfBoundsException {
        checkNode(from);
        checkNode(to);
        return now.roads.costsTo(to)[from];
    }

    public int nextLink(int from, int to) throws IndexOutOfBoundsException {
        checkNode(from);
        checkNode(to);
        return now.roads.firstOfWay(from, to);
    }

    // ---- asking vehicles

    public int vehicles() {
        return now.vehicles;
    }

    public int stateOf(int vehicle) throws IndexOutOfBoundsException {
        return vehicleNumbered(vehicle).state;
    }

    public int linkOf(int vehicle) throws IndexOutOfBoundsException {
        return vehicleNumbered(vehicle).link;
    }

    public int endOf(int vehicle) throws IndexOutOfBoundsException {
        return vehicleNumbered(vehicle).end;
    }

    public int linksOf(int vehicle) throws IndexOutOfBoundsException {
        return vehicleNumbered(vehicle).gone;
    }

    public int linkAt(int vehicle, int place) throws IndexOutOfBoundsException {
        Vehicle found = vehicleNumbered(vehicle);
        if (place < 0 || place >= found.gone || now.trails == null) {
            throw new IndexOutOfBoundsException("it went over no such link");
        }
        return now.trails.get(vehicle, place);
    }

    public int tripOf(int vehicle) throws IndexOutOfBoundsException {
        return vehicleNumbered(vehicle).trip;
    }

    public int delayOf(int vehicle) throws IndexOutOfBoundsException {
        return vehicleNumbered(vehicle).delay;
    }

    public int waiting(int node) throws IndexOutOfBoundsException {
        checkNode(node);
        return now.row[node].size;
    }

    // ---- asking links

    public int onLink(int link) throws IndexOutOfBoundsException {
        return linkNumbered(link).row.size;
    }

    public int vehicleAt(int link, int place) throws IndexOutOfBoundsException {
        Row row = linkNumbered(link).row;
        if (place < 0 || place >= row.size) {
            throw new IndexOutOfBoundsException("there is no such place");
        }
        return row.get(place);
    }

    public int queue(int link) throws IndexOutOfBoundsException {
        return linkNumbered(link).queueIn(now.clock);
    }

    // ---- what was counted

    public int count(int link, int what) throws IndexOutOfBoundsException, IllegalArgumentException {
        Link found = linkNumbered(link);
        switch (what) {
            case 0:
                return found.came;
            case 1:
                return found.left;
            case 2:
                return found.greatestQueue;
            case 3:
                return found.sumOfQueues;
            default:
                throw new IllegalArgumentException("there is no such count");
        }
    }

    public int turned(int link, int next) throws IndexOutOfBoundsException {
        Link found = linkNumbered(link);
        linkNumbered(next);
        return found.wentOnto[next];
    }

    public int ofFlow(int flow, int what) throws IndexOutOfBoundsException, IllegalArgumentException {
        if (flow < 0 || flow >= now.flows) {
            throw new IndexOutOfBoundsException("there is no such flow");
        }
        Flow found = now.flow[flow];
        switch (what) {
            case 0:
                return found.came;
            case 1:
                return found.arrived;
            case 2:
                return found.givenUp;
            case 3:
                return found.sumOfTrips;
            case 4:
                return found.sumOfDelays;
            case 5:
                return found.longestTrip;
            default:
                throw new IllegalArgumentException("there is no such count");
        }
    }

    public double meanTrip() {
        long sum = 0;
        int arrived = 0;
        for (int i = 0; i < now.flows; i++) {
            sum += now.flow[i].sumOfTrips;
            arrived += now.flow[i].arrived;
        }
        return arrived > 0 ? (double) sum / arrived : 0;
    }

    // ---- what would be (nothing is changed)

    public int arrivesIn(int vehicle, int ticks)
            throws IndexOutOfBoundsException, IllegalArgumentException {
        Vehicle found = vehicleNumbered(vehicle);
        checkTicks(ticks);
        if (found.state == ARRIVED) {
            return 0;
        }
        trial.copyFrom(now);
        for (int i = 1; i <= ticks; i++) {
            trial.tick();
            if (trial.vehicle[vehicle].state == ARRIVED) {
                return i;
            }
        }
        return NONE;
    }

    public int emptyIn(int ticks) throws IllegalArgumentException {
        checkTicks(ticks);
        if (now.underWay == 0) {
            return 0;
        }
        trial.copyFrom(now);
        for (int i = 1; i <= ticks; i++) {
            trial.tick();
            if (trial.underWay == 0) {
                return i;
            }
        }
        return NONE;
    }

    public int distanceWithout(int link, int from, int to) throws IndexOutOfBoundsException {
        Link found = linkNumbered(link);
        checkNode(from);
        checkNode(to);
        return now.roads.costWithout(found, from, to);
    }

    public long digest() {
        long d = 58038;
        d = d * 31 + clock();
        d = d * 31 + nodes();
        d = d * 31 + links();
        d = d * 31 + flows();
        d = d * 31 + vehicles();
        d = digestNodes(d);
        d = digestLinks(d);
        d = digestFlows(d);
        return digestVehicles(d);
    }

    private long digestNodes(long before) {
        long d = before;
        for (int node = 0; node < nodes(); node++) {
            d = d * 31 + phaseOf(node);
            d = d * 31 + phaseTicks(node);
            d = d * 31 + waiting(node);
            for (int to = 0; to < nodes(); to++) {
                d = d * 31 + distance(node, to);
                d = d * 31 + nextLink(node, to);
            }
        }
        return d;
    }

    private long digestLinks(long before) {
        long d = before;
        for (int link = 0; link < links(); link++) {
            d = d * 31 + (isShut(link) ? 1 : 0);
            d = d * 31 + rateOf(link);
            d = d * 31 + costOf(link);
            d = d * 31 + onLink(link);
            for (int place = 0; place < onLink(link); place++) {
                d = d * 31 + vehicleAt(link, place);
            }
            d = d * 31 + queue(link);
            for (int what = 0; what <= 3; what++) {
                d = d * 31 + count(link, what);
            }
            for (int next = 0; next < links(); next++) {
                d = d * 31 + turned(link, next);
            }
        }
        return d;
    }

    private long digestFlows(long before) {
        long d = before;
        for (int flow = 0; flow < flows(); flow++) {
            for (int what = 0; what <= 5; what++) {
                d = d * 31 + ofFlow(flow, what);
            }
        }
        return d;
    }

    private long digestVehicles(long before) {
        long d = before;
        for (int vehicle = 0; vehicle < vehicles(); vehicle++) {
            d = d * 31 + stateOf(vehicle);
            d = d * 31 + linkOf(vehicle);
            d = d * 31 + endOf(vehicle);
            d = d * 31 + linksOf(vehicle);
            d = d * 31 + tripOf(vehicle);
            d = d * 31 + delayOf(vehicle);
        }
        return d;
    }

    // ---- looking at arguments

    private static boolean isWithin(int number, int least, int most) {
        return number >= least && number <= most;
    }

    private static void checkArgument(boolean isRight) {
        if (!isRight) {
            throw new IllegalArgumentException("an argument is not within its bounds");
        }
    }

    private static void checkTicks(int ticks) {
        checkArgument(isWithin(ticks, 1, MOST_TICKS));
    }

    private void checkNode(int node) {
        if (node < 0 || node >= now.nodes) {
            throw new IndexOutOfBoundsException("there is no such node");
        }
    }

    private Link linkNumbered(int number) {
        Link found = now.roads.find(number);
        if (found == null) {
            throw new IndexOutOfBoundsException("there is no such link");
        }
        return found;
    }

    private Vehicle vehicleNumbered(int number) {
        Vehicle found = now.find(number);
        if (found == null) {
            throw new IndexOutOfBoundsException("there is no such vehicle");
        }
        return found;
    }

    /** Numbers in a row, as they came. */
    private static final class Row {
        private final int[] number;
        private int size;

        Row(int most) {
            number = new int[Math.max(most, 0)];
        }

        int get(int place) {
            return place >= 0 && place < size ? number[place] : NONE;
        }

        void append(int last) {
            if (size < number.length) {
                number[size] = last;
                size++;
            }
        }

        void dropFirst() {
            if (size > 0) {
                size--;
                System.arraycopy(number, 1, number, 0, size);
            }
        }

        void copyFrom(Row other) {
            size = Math.min(other.size, number.length);
            System.arraycopy(other.number, 0, number, 0, size);
        }
    }

    /** A link, the vehicles on it, and what was counted there. */
    private static final class Link {
        private int from;
        private int to;
        private int time;
        private int room;
        private int firstRate;
        private int rate;
        private int slowTicks = NONE;
        private boolean shut;
        private int cost;
        private final Row row = new Row(MOST_ROOM);
        private final Row ends = new Row(MOST_ROOM);
        private int came;
        private int left;
        private int greatestQueue;
        private int sumOfQueues;
        private final int[] wentOnto = new int[MOST_LINKS];

        void playSlowTick() {
            if (slowTicks > 0) {
                slowTicks--;
            } else if (slowTicks == 0) {
                slowTicks = NONE;
                rate = firstRate;
            }
        }

        /** All vehicles take the same time here, so that those at the END stand first. */
        boolean hasQueueIn(int tick) {
            return ends.size > 0 && ends.get(0) <= tick;
        }

        int queueIn(int tick) {
            int queued = 0;
            while (queued < ends.size && ends.get(queued) <= tick) {
                queued++;
            }
            return queued;
        }

        int costIn(int tick) {
            int queued = queueIn(tick);
            return time + (rate > 0 ? (queued + rate - 1) / rate : 10 * queued);
        }

        boolean isOpen() {
            return !shut && row.size < room;
        }

        void takeIn(int vehicle, int end) {
            row.append(vehicle);
            ends.append(end);
            came++;
        }

        void letFirstGo() {
            row.dropFirst();
            ends.dropFirst();
            left++;
        }

        void countTurn(int next) {
            if (next >= 0 && next < wentOnto.length) {
                wentOnto[next]++;
            }
        }

        void countQueueIn(int tick) {
            int queued = queueIn(tick);
            greatestQueue = Math.max(greatestQueue, queued);
            sumOfQueues += queued;
        }

        /** What was counted stays behind: nobody asks a copy for it. */
        void copyFrom(Link other) {
            from = other.from;
            to = other.to;
            time = other.time;
            room = other.room;
            firstRate = other.firstRate;
            rate = other.rate;
            slowTicks = other.slowTicks;
            shut = other.shut;
            cost = other.cost;
            row.copyFrom(other.row);
            ends.copyFrom(other.ends);
        }
    }

    /** The phases of a node's signal; without any there is none. */
    private static final class Signal {
        private final int[] links = new int[MOST_PHASES];
        private final int[] least = new int[MOST_PHASES];
        private final int[] greatest = new int[MOST_PHASES];
        private int phases;
        private int phase = NONE;
        private int ticks;

        int append(int set, int leastTicks, int greatestTicks) {
            if (phases >= MOST_PHASES) {
                return NONE;
            }
            links[phases] = set;
            least[phases] = leastTicks;
            greatest[phases] = greatestTicks;
            return phases++;
        }

        void clear() {
            phases = 0;
            phase = NONE;
            ticks = 0;
        }

        private boolean isOn() {
            return phase >= 0 && phase < phases;
        }

        int linksOn() {
            return isOn() ? links[phase] : 0;
        }

        boolean isGreen(int link) {
            return phases == 0 || (linksOn() >> link & 1) == 1;
        }

        void playTick(boolean hasQueue) {
            ticks++;
            if (!isOn() || ticks > greatest[phase] || ticks > least[phase] && !hasQueue) {
                phase = phase + 1 < phases ? phase + 1 : 0;
                ticks = 1;
            }
        }

        void copyFrom(Signal other) {
            System.arraycopy(other.links, 0, links, 0, MOST_PHASES);
            System.arraycopy(other.least, 0, least, 0, MOST_PHASES);
            System.arraycopy(other.greatest, 0, greatest, 0, MOST_PHASES);
            phases = other.phases;
            phase = other.phase;
            ticks = other.ticks;
        }
    }

    /** A flow, and what was counted of its vehicles. */
    private static final class Flow {
        private int from;
        private int to;
        private int kind;
        private int start;
        private int period = 1;
        private int most;
        private int came;
        private int arrived;
        private int givenUp;
        private int sumOfTrips;
        private int sumOfDelays;
        private int longestTrip;

        void tell(int itsFrom, int itsTo, int itsKind, int itsStart, int itsPeriod, int itsCount) {
            from = itsFrom;
            to = itsTo;
            kind = itsKind;
            start = itsStart;
            period = itsPeriod;
            most = itsCount;
        }

        boolean bringsIn(int tick) {
            if (tick < start || period < 1) {
                return false;
            }
            int since = tick - start;
            return since % period == 0 && since / period < most;
        }

        void countTrip(int trip, int delay) {
            arrived++;
            sumOfTrips += trip;
            sumOfDelays += delay;
            longestTrip = Math.max(longestTrip, trip);
        }
    }

    /** A vehicle, and, if it is SET, its whole way. */
    private static final class Vehicle {
        private int flow;
        private int to;
        private int kind;
        private int state;
        private int start;
        private int link;
        private int end;
        private int gone;
        private int driven;
        private int trip;
        private int delay;
        private int wayLinks;
        // A way of least cost comes to no node twice.
        private final int[] way = new int[MOST_NODES - 1];

        void come(int itsFlow, int itsTo, int itsKind, int tick) {
            flow = itsFlow;
            to = itsTo;
            kind = itsKind;
            state = WAITING;
            start = tick;
            link = NONE;
            end = NONE;
            gone = 0;
            driven = 0;
            trip = NONE;
            delay = NONE;
            wayLinks = 0;
        }

        void planOver(int next) {
            if (wayLinks < way.length) {
                way[wayLinks] = next;
                wayLinks++;
            }
        }

        int nextOfWay() {
            return gone >= 0 && gone < wayLinks ? way[gone] : NONE;
        }

        void goOnto(int next, int time, int tick) {
            state = ON;
            link = next;
            end = tick + time;
            gone++;
            driven += time;
        }

        void arrive(int tick) {
            state = ARRIVED;
            link = NONE;
            end = NONE;
            trip = tick - start;
            delay = trip - driven;
        }

        void copyFrom(Vehicle other) {
            come(other.flow, other.to, other.kind, other.start);
            state = other.state;
            link = other.link;
            end = other.end;
            gone = other.gone;
            driven = other.driven;
            trip = other.trip;
            delay = other.delay;
            wayLinks = other.wayLinks;
            System.arraycopy(other.way, 0, way, 0, way.length);
        }
    }

    /**
     * The links over which each vehicle went. Heeding vehicles can be driven about as long as
     * ticks go by, so that links are packed, twelve to a word of five bits each.
     */
    private static final class Trails {
        private static final int LINKS_OF_A_WORD = 12;
        private static final int BITS = 5;
        // A vehicle comes onto one link in a tick at most.
        private static final int MOST_PLACES = MOST_CALLS * MOST_TICKS;

        private final long[][] words = new long[MOST_VEHICLES][1];

        void put(int vehicle, int place, int link) {
            if (!isWithin(vehicle, 0, MOST_VEHICLES - 1) || !isWithin(place, 0, MOST_PLACES - 1)) {
                return;
            }
            int word = place / LINKS_OF_A_WORD;
            int length = words[vehicle].length;
            if (word >= length) {
                words[vehicle] = Arrays.copyOf(words[vehicle], Math.max(word + 1, 2 * length));
            }
            words[vehicle][word] |= (long) link << place % LINKS_OF_A_WORD * BITS;
        }

        int get(int vehicle, int place) {
            if (!isWithin(vehicle, 0, MOST_VEHICLES - 1) || place < 0) {
                return NONE;
            }
            int word = place / LINKS_OF_A_WORD;
            if (word >= words[vehicle].length) {
                return NONE;
            }
            return (int) (words[vehicle][word] >>> place % LINKS_OF_A_WORD * BITS) & (1 << BITS) - 1;
        }
    }

    /** The links with their costs, and the ways over them. */
    private static final class Roads {
        private static final int BITS_OF_A_SET = 32;

        private final Link[] link = new Link[MOST_LINKS];
        private int links;
        // By the node to which, then the node from which; reckoned only when somebody asks.
        private final int[][] costs = new int[MOST_NODES][MOST_NODES];
        // The nodes to which they are reckoned, as the sum of 2^node.
        private int reckoned;

        Roads() {
            for (int i = 0; i < MOST_LINKS; i++) {
                link[i] = new Link();
            }
        }

        Link find(int number) {
            return number >= 0 && number < links ? link[number] : null;
        }

        int lay(int from, int to, int time, int room, int rate) {
            if (links >= MOST_LINKS) {
                return NONE;
            }
            Link laid = link[links];
            laid.from = from;
            laid.to = to;
            laid.time = time;
            laid.room = room;
            laid.firstRate = rate;
            laid.rate = rate;
            laid.cost = time;
            forgetWays();
            return links++;
        }

        boolean allLeadTo(int node, int set) {
            for (int i = 0; i < BITS_OF_A_SET; i++) {
                if ((set >> i & 1) == 1 && (i >= links || link[i].to != node)) {
                    return false;
                }
            }
            return true;
        }

        boolean anyHasQueueIn(int tick, int set) {
            for (int i = 0; i < links; i++) {
                if ((set >> i & 1) == 1 && link[i].hasQueueIn(tick)) {
                    return true;
                }
            }
            return false;
        }

        void playSlowTick() {
            for (int i = 0; i < links; i++) {
                link[i].playSlowTick();
            }
        }

        void reckonCostsIn(int tick) {
            for (int i = 0; i < links; i++) {
                int cost = link[i].costIn(tick);
                if (cost != link[i].cost) {
                    link[i].cost = cost;
                    forgetWays();
                }
            }
        }

        void countQueuesIn(int tick) {
            for (int i = 0; i < links; i++) {
                link[i].countQueueIn(tick);
            }
        }

        void forgetWays() {
            reckoned = 0;
        }

        /** The least cost to a node from each node, NONE without a way. */
        int[] costsTo(int to) {
            int[] cost = costs[to];
            if ((reckoned >> to & 1) == 1) {
                return cost;
            }
            reckoned |= 1 << to;
            Arrays.fill(cost, NONE);
            cost[to] = 0;
            boolean isBetter = true;
            for (int round = 0; isBetter && round < MOST_NODES; round++) {
                isBetter = false;
                for (int i = 0; i < links; i++) {
                    Link over = link[i];
                    int rest = cost[over.to];
                    int known = cost[over.from];
                    if (!over.shut && rest != NONE && (known == NONE || over.cost + rest < known)) {
                        cost[over.from] = over.cost + rest;
                        isBetter = true;
                    }
                }
            }
            return cost;
        }

        /** The link is shut for the time of the asking alone. */
        int costWithout(Link without, int from, int to) {
            boolean was = without.shut;
            without.shut = true;
            forgetWays();
            int cost = costsTo(to)[from];
            without.shut = was;
            forgetWays();
            return cost;
        }

        int firstOfWay(int from, int to) {
            int[] cost = costsTo(to);
            if (from == to || cost[from] == NONE) {
                return NONE;
            }
            for (int i = 0; i < links; i++) {
                Link over = link[i];
                int rest = cost[over.to];
                if (over.from == from && !over.shut && rest != NONE && over.cost + rest == cost[from]) {
                    return i;
                }
            }
            return NONE;
        }

        /** Tells whether there is a way. */
        boolean planWay(Vehicle vehicle, int from) {
            int node = from;
            for (int i = 0; i < MOST_NODES && node != vehicle.to; i++) {
                int next = firstOfWay(node, vehicle.to);
                Link found = find(next);
                if (found == null) {
                    return false;
                }
                vehicle.planOver(next);
                node = found.to;
            }
            return node == vehicle.to;
        }

        void copyFrom(Roads other) {
            links = other.links;
            for (int i = 0; i < links; i++) {
                link[i].copyFrom(other.link[i]);
            }
            forgetWays();
        }
    }

    /** All that the ticks change, and the ticks. */
    private static final class Traffic {
        private final Roads roads = new Roads();
        private final Signal[] signal = new Signal[MOST_NODES];
        private final Row[] row = new Row[MOST_NODES];
        private final Flow[] flow = new Flow[MOST_FLOWS];
        private final Vehicle[] vehicle = new Vehicle[MOST_VEHICLES];
        // None where what would be is played: nobody asks there over which links a vehicle went.
        private final Trails trails;
        private int clock;
        private int refresh = 1;
        private int nodes;
        private int flows;
        private int vehicles;
        private int underWay;

        Traffic(boolean keepsTrails) {
            trails = keepsTrails ? new Trails() : null;
            for (int i = 0; i < MOST_NODES; i++) {
                signal[i] = new Signal();
                row[i] = new Row(MOST_VEHICLES);
            }
            for (int i = 0; i < MOST_FLOWS; i++) {
                flow[i] = new Flow();
            }
            for (int i = 0; i < MOST_VEHICLES; i++) {
                vehicle[i] = new Vehicle();
            }
        }

        Vehicle find(int number) {
            return number >= 0 && number < vehicles ? vehicle[number] : null;
        }

        void tick() {
            roads.playSlowTick();
            if (refresh > 0 && clock % refresh == 0) {
                roads.reckonCostsIn(clock);
            }
            bringVehicles();
            playSignals();
            driveOnLinks();
            driveFromNodes();
            roads.countQueuesIn(clock);
            clock++;
        }

        private void bringVehicles() {
            for (int i = 0; i < flows; i++) {
                if (flow[i].bringsIn(clock) && vehicles < MOST_VEHICLES) {
                    bring(i);
                }
            }
        }

        private void bring(int flowNumber) {
            Flow its = flow[flowNumber];
            Vehicle coming = vehicle[vehicles];
            coming.come(flowNumber, its.to, its.kind, clock);
            its.came++;
            if (its.kind == SET && !roads.planWay(coming, its.from)) {
                coming.state = GIVEN_UP;
                its.givenUp++;
            } else {
                row[its.from].append(vehicles);
                underWay++;
            }
            vehicles++;
        }

        private void playSignals() {
            for (int i = 0; i < nodes; i++) {
                if (signal[i].phases > 0) {
                    signal[i].playTick(roads.anyHasQueueIn(clock, signal[i].linksOn()));
                }
            }
        }

        private void driveOnLinks() {
            int links = roads.links;
            if (links < 1) {
                return;
            }
            int first = Math.floorMod(clock, links);
            for (int i = 0; i < links; i++) {
                int number = first + i < links ? first + i : first + i - links;
                Link from = roads.link[number];
                int most = signal[from.to].isGreen(number) ? from.rate : 0;
                boolean goesOn = true;
                for (int k = 0; goesOn && k < most; k++) {
                    goesOn = firstGoesOn(from);
                }
            }
        }

        /** Lets the first vehicle of a link go on, and tells whether it can. */
        private boolean firstGoesOn(Link from) {
            int number = from.row.get(0);
            Vehicle first = find(number);
            if (first == null || !from.hasQueueIn(clock)) {
                return false;
            }
            if (first.to == from.to) {
                arrive(first);
            } else {
                int next = nextOf(first, from.to);
                if (!comesOnto(number, first, next)) {
                    return false;
                }
                from.countTurn(next);
            }
            from.letFirstGo();
            return true;
        }

        private void driveFromNodes() {
            for (int i = 0; i < nodes; i++) {
                int number = row[i].get(0);
                Vehicle first = find(number);
                if (first != null && comesOnto(number, first, nextOf(first, i))) {
                    row[i].dropFirst();
                }
            }
        }

        private int nextOf(Vehicle driving, int node) {
            return driving.kind == SET ? driving.nextOfWay() : roads.firstOfWay(node, driving.to);
        }

        /** Brings a vehicle onto a link, and tells whether it can come there. */
        private boolean comesOnto(int number, Vehicle driving, int next) {
            Link onto = roads.find(next);
            if (onto == null || !onto.isOpen()) {
                return false;
            }
            driving.goOnto(next, onto.time, clock);
            onto.takeIn(number, driving.end);
            if (trails != null) {
                trails.put(number, driving.gone - 1, next);
            }
            return true;
        }

        private void arrive(Vehicle arriving) {
            arriving.arrive(clock);
            underWay--;
            if (arriving.flow >= 0 && arriving.flow < flows) {
                flow[arriving.flow].countTrip(arriving.trip, arriving.delay);
            }
        }

        void copyFrom(Traffic other) {
            clock = other.clock;
            refresh = other.refresh;
            nodes = other.nodes;
            flows = other.flows;
            vehicles = other.vehicles;
            underWay = other.underWay;
            roads.copyFrom(other.roads);
            for (int i = 0; i < nodes; i++) {
                signal[i].copyFrom(other.signal[i]);
                row[i].copyFrom(other.row[i]);
            }
            for (int i = 0; i < flows; i++) {
                Flow its = other.flow[i];
                flow[i].tell(its.from, its.to, its.kind, its.start, its.period, its.most);
            }
            for (int i = 0; i < vehicles; i++) {
                vehicle[i].copyFrom(other.vehicle[i]);
            }
        }
    }
}
