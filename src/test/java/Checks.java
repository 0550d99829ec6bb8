/** Counts and prints the answers that are not those that are due. */
final class Checks {
    private final String name;
    private int asked;
    private int wrong;
    private int askedAbout;
    private String about = "";

    Checks(String name) {
        this.name = name;
    }

    /** What is asked from now on is about this sentence; about the one before something was. */
    void about(String sentence) {
        if (!about.isEmpty() && asked == askedAbout) {
            fail("nothing is asked about it");
        }
        about = sentence;
        askedAbout = asked;
    }

    static Turnpike withNodes(int nodes) {
        Turnpike t = new Turnpike();
        for (int i = 0; i < nodes; i++) {
            t.addNode();
        }
        return t;
    }

    /** Two nodes, and a link from the node 0 to the node 1. */
    static Turnpike road(int time, int room, int rate) {
        Turnpike t = withNodes(2);
        t.addLink(0, 1, time, room, rate);
        return t;
    }

    /** The same, with as many vehicles at the END as are told, which will not go on at red. */
    static Turnpike queuedRoad(int time, int rate, int queued) {
        Turnpike t = road(time, 30, rate);
        t.addPhase(1, 0, 40, 40);
        if (queued > 0) {
            t.addFlow(0, 1, 0, 0, 1, queued);
        }
        t.step(60);
        return t;
    }

    static void step(Turnpike t, int ticks) {
        for (int left = ticks; left > 0; left -= 60) {
            t.step(Math.min(left, 60));
        }
    }

    void due(String call, long want, long got) {
        asked++;
        if (got != want) {
            tell(call + " answered " + got + ", due is " + want);
        }
    }

    void due(String call, boolean want, boolean got) {
        due(call, want ? 1 : 0, got ? 1 : 0);
    }

    void dueDouble(String call, double want, double got) {
        asked++;
        if (Double.compare(got, want) != 0) {
            tell(call + " answered " + got + ", due is " + want);
        }
    }

    void noIndex(String call, Turnpike of, Runnable run) {
        dueThrow(call, IndexOutOfBoundsException.class, of, run);
    }

    void noArgument(String call, Turnpike of, Runnable run) {
        dueThrow(call, IllegalArgumentException.class, of, run);
    }

    void noState(String call, Turnpike of, Runnable run) {
        dueThrow(call, IllegalStateException.class, of, run);
    }

    void takes(String call, Runnable run) {
        asked++;
        try {
            run.run();
        } catch (RuntimeException e) {
            tell(call + " threw " + e.getClass() + ", due is none");
        }
    }

    private void dueThrow(String call, Class<?> want, Turnpike of, Runnable run) {
        long before = of.digest();
        refuses(call, want, run);
        if (of.digest() != before) {
            tell(call + " changed something");
        }
    }

    /** The very class counts: what the machine throws is of a class below it. */
    void refuses(String call, Class<?> want, Runnable run) {
        asked++;
        Class<?> got = null;
        try {
            run.run();
        } catch (RuntimeException e) {
            got = e.getClass();
        }
        if (got != want) {
            tell(call + " threw " + got + ", due is " + want);
        }
    }

    void fail(String what) {
        asked++;
        tell(what);
    }

    private void tell(String what) {
        wrong++;
        System.out.println(name + ": " + about + (about.isEmpty() ? "" : ": ") + what);
    }

    /** Ends the program with 1 if an answer was wrong, or if nothing was asked. */
    void end() {
        System.out.println(name + ": " + asked + " asked, " + wrong + " wrong");
        if (wrong != 0 || asked == 0) {
            System.exit(1);
        }
    }
}
