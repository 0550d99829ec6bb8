import java.util.function.Consumer;

/**
 * Every call that takes an argument, with arguments of all sizes: it throws exactly what is due,
 * the first that is named, and changes nothing then.
 */
public final class WrongArgumentsTest {
    private static final int[] VALUES = {
        Integer.MIN_VALUE, Integer.MIN_VALUE + 1, -31, -2, -1, 0, 1, 2, 3, 4, 5, 9, 10, 11, 12, 13, 20,
        21, 23, 24, 25, 30, 31, 32, 40, 41, 60, 61, 199, 200, 201, 500, 501, 502, 530, 531, 1 << 23,
        1 << 24, 1 << 30, Integer.MAX_VALUE - 1, Integer.MAX_VALUE,
    };
    private static final int DRAWS = 1500;

    private final Checks checks = new Checks("WrongArgumentsTest");
    private long seed = 4711;
    private int nodes;
    private int links;
    private int flows;
    private int vehicles;
    private int phases;
    private int clock;

    public static void main(String[] args) {
        WrongArgumentsTest test = new WrongArgumentsTest();
        test.look(0, 0, 0, 0, 0);
        test.look(1, 0, 0, 0, 7);
        test.look(3, 4, 2, 2, 30);
        test.look(12, 24, 10, 4, 30);
        test.checks.end();
    }

    private interface Call {
        void on(Turnpike t, int[] a);
    }

    private interface Due {
        Class<?> of(int[] a);
    }

    private void look(int ofNodes, int ofLinks, int ofFlows, int ofPhases, int ticks) {
        nodes = ofNodes;
        links = ofLinks;
        flows = ofFlows;
        phases = ofPhases;
        clock = ticks;
        vehicles = make().vehicles();
        lookAtTelling();
        lookAtAskingOne();
        lookAtAskingMore();
    }

    private Turnpike make() {
        Turnpike t = new Turnpike();
        for (int i = 0; i < nodes; i++) {
            t.addNode();
        }
        for (int i = 0; i < links; i++) {
            t.addLink(i % nodes, (i + 1 + i / nodes) % nodes, 1 + i % 5, 1 + i, 1 + i % 3);
        }
        for (int i = 0; i < flows; i++) {
            t.addFlow(i % nodes, (i + 2) % nodes, i % 2, i, 2 + i, 9);
        }
        for (int node = 0; node < nodes; node++) {
            for (int i = 0; i < phases; i++) {
                t.addPhase(node, 0, 1, 3);
            }
        }
        if (clock > 0) {
            t.step(clock);
        }
        return t;
    }

    private int draw() {
        seed = seed * 6364136223846793005L + 1442695040888963407L;
        int drawn = (int) ((seed >>> 33) % (2 * VALUES.length));
        // Half of them small, so that wrong ones stand among right ones.
        return drawn < VALUES.length ? VALUES[drawn] : drawn % 7;
    }

    private void look(String name, int arguments, Due due, Call call) {
        for (int i = 0; i < DRAWS; i++) {
            int[] a = new int[arguments];
            for (int k = 0; k < arguments; k++) {
                a[k] = draw();
            }
            look(name + java.util.Arrays.toString(a), a, due.of(a), call);
        }
    }

    private void look(String name, int[] a, Class<?> due, Call call) {
        Turnpike t = make();
        Consumer<Turnpike> run = x -> call.on(x, a);
        if (due == IndexOutOfBoundsException.class) {
            checks.noIndex(name, t, () -> run.accept(t));
        } else if (due == IllegalArgumentException.class) {
            checks.noArgument(name, t, () -> run.accept(t));
        } else if (due == IllegalStateException.class) {
            checks.noState(name, t, () -> run.accept(t));
        } else {
            lookAtAnswer(name, t, run);
        }
    }

    private void lookAtAnswer(String name, Turnpike t, Consumer<Turnpike> run) {
        Class<?> got = null;
        try {
            run.accept(t);
        } catch (RuntimeException e) {
            got = e.getClass();
        }
        checks.due(name + " threw " + got, true, got == null);
    }

    private static boolean isIn(int number, int least, int most) {
        return number >= least && number <= most;
    }

    private static Class<?> due(boolean isIndex, boolean isArgument, boolean isState) {
        return isIndex ? IndexOutOfBoundsException.class
                : isArgument ? IllegalArgumentException.class
                : isState ? IllegalStateException.class : null;
    }

    private boolean noNode(int number) {
        return !isIn(number, 0, nodes - 1);
    }

    private boolean noLink(int number) {
        return !isIn(number, 0, links - 1);
    }

    private boolean noVehicle(int number) {
        return !isIn(number, 0, vehicles - 1);
    }

    private boolean isWrongSet(int node, int set) {
        if (set < 0) {
            return true;
        }
        for (int i = 0; i < 31; i++) {
            if ((set & 1 << i) != 0 && (i >= links || (i + 1 + i / nodes) % nodes != node)) {
                return true;
            }
        }
        return false;
    }

    private void lookAtTelling() {
        look("addLink", 5, a -> due(noNode(a[0]) || noNode(a[1]),
                a[0] == a[1] || !isIn(a[2], 1, 20) || !isIn(a[3], 1, 30) || !isIn(a[4], 1, 3), links == 24),
                (t, a) -> t.addLink(a[0], a[1], a[2], a[3], a[4]));
        look("addPhase", 4, a -> noNode(a[0]) ? due(true, false, false) : due(false,
                isWrongSet(a[0], a[1]) || !isIn(a[2], 1, 40) || !isIn(a[3], a[2], 40), phases == 4),
                (t, a) -> t.addPhase(a[0], a[1], a[2], a[3]));
        look("dropSignal", 1, a -> due(noNode(a[0]), false, false), (t, a) -> t.dropSignal(a[0]));
        look("setRefresh", 1, a -> due(false, !isIn(a[0], 1, 30), false), (t, a) -> t.setRefresh(a[0]));
        look("shut", 2, a -> due(noLink(a[0]), false, false), (t, a) -> t.shut(a[0], a[1] > 0));
        look("slow", 3, a -> due(noLink(a[0]), !isIn(a[1], 0, 3) || !isIn(a[2], 1, 200), false),
                (t, a) -> t.slow(a[0], a[1], a[2]));
        look("addFlow", 6, a -> due(noNode(a[0]) || noNode(a[1]),
                a[0] == a[1] || !isIn(a[2], 0, 1) || !isIn(a[3], clock, clock + 500)
                        || !isIn(a[4], 1, 30) || !isIn(a[5], 1, 40), flows == 10),
                (t, a) -> t.addFlow(a[0], a[1], a[2], a[3], a[4], a[5]));
        look("step", 1, a -> due(false, !isIn(a[0], 1, 60), false), (t, a) -> t.step(a[0]));
    }

    private void lookAtAskingOne() {
        Due link = a -> due(noLink(a[0]), false, false);
        look("isShut", 1, link, (t, a) -> t.isShut(a[0]));
        look("rateOf", 1, link, (t, a) -> t.rateOf(a[0]));
        look("costOf", 1, link, (t, a) -> t.costOf(a[0]));
        look("onLink", 1, link, (t, a) -> t.onLink(a[0]));
        look("queue", 1, link, (t, a) -> t.queue(a[0]));
        Due node = a -> due(noNode(a[0]), false, false);
        look("phaseOf", 1, node, (t, a) -> t.phaseOf(a[0]));
        look("phaseTicks", 1, node, (t, a) -> t.phaseTicks(a[0]));
        look("waiting", 1, node, (t, a) -> t.waiting(a[0]));
        Due vehicle = a -> due(noVehicle(a[0]), false, false);
        look("stateOf", 1, vehicle, (t, a) -> t.stateOf(a[0]));
        look("linkOf", 1, vehicle, (t, a) -> t.linkOf(a[0]));
        look("endOf", 1, vehicle, (t, a) -> t.endOf(a[0]));
        look("linksOf", 1, vehicle, (t, a) -> t.linksOf(a[0]));
        look("tripOf", 1, vehicle, (t, a) -> t.tripOf(a[0]));
        look("delayOf", 1, vehicle, (t, a) -> t.delayOf(a[0]));
        look("emptyIn", 1, a -> due(false, !isIn(a[0], 1, 60), false), (t, a) -> t.emptyIn(a[0]));
    }

    private void lookAtAskingMore() {
        Turnpike same = make();
        Due nodePair = a -> due(noNode(a[0]) || noNode(a[1]), false, false);
        look("distance", 2, nodePair, (t, a) -> t.distance(a[0], a[1]));
        look("nextLink", 2, nodePair, (t, a) -> t.nextLink(a[0], a[1]));
        look("distanceWithout", 3, a -> due(noLink(a[0]) || noNode(a[1]) || noNode(a[2]), false, false),
                (t, a) -> t.distanceWithout(a[0], a[1], a[2]));
        look("turned", 2, a -> due(noLink(a[0]) || noLink(a[1]), false, false), (t, a) -> t.turned(a[0], a[1]));
        look("vehicleAt", 2, a -> due(noLink(a[0]) || !isIn(a[1], 0, same.onLink(a[0]) - 1), false, false),
                (t, a) -> t.vehicleAt(a[0], a[1]));
        look("linkAt", 2, a -> due(noVehicle(a[0]) || !isIn(a[1], 0, same.linksOf(a[0]) - 1), false, false),
                (t, a) -> t.linkAt(a[0], a[1]));
        look("count", 2, a -> due(noLink(a[0]), !isIn(a[1], 0, 3), false), (t, a) -> t.count(a[0], a[1]));
        look("ofFlow", 2, a -> due(!isIn(a[0], 0, flows - 1), !isIn(a[1], 0, 5), false),
                (t, a) -> t.ofFlow(a[0], a[1]));
        look("arrivesIn", 2, a -> due(noVehicle(a[0]), !isIn(a[1], 1, 60), false),
                (t, a) -> t.arrivesIn(a[0], a[1]));
    }
}
