/** Counts and prints the answers that are not those that are due. */
final class Checks {
    private final String name;
    private int asked;
    private int wrong;

    Checks(String name) {
        this.name = name;
    }

    static Turnpike withNodes(int nodes) {
        Turnpike t = new Turnpike();
        for (int i = 0; i < nodes; i++) {
            t.addNode();
        }
        return t;
    }

    void due(String call, long want, long got) {
        asked++;
        if (got != want) {
            tell(call + " answered " + got + ", due is " + want);
        }
    }

    void due(String call, boolean want, boolean got) {
        due(call, want ? 1 : 0, got ? 1 : 0);
    }

    void dueDouble(String call, double want, double got) {
        asked++;
        if (Double.compare(got, want) != 0) {
            tell(call + " answered " + got + ", due is " + want);
        }
    }

    void noIndex(String call, Turnpike of, Runnable run) {
        dueThrow(call, IndexOutOfBoundsException.class, of, run);
    }

    void noArgument(String call, Turnpike of, Runnable run) {
        dueThrow(call, IllegalArgumentException.class, of, run);
    }

    void noState(String call, Turnpike of, Runnable run) {
        dueThrow(call, IllegalStateException.class, of, run);
    }

    /** The very class counts: what the machine throws is of a class below it. */
    private void dueThrow(String call, Class<?> want, Turnpike of, Runnable run) {
        asked++;
        long before = of.digest();
        Class<?> got = null;
        try {
            run.run();
        } catch (RuntimeException e) {
            got = e.getClass();
        }
        if (got != want) {
            tell(call + " threw " + got + ", due is " + want);
        }
        if (of.digest() != before) {
            tell(call + " changed something");
        }
    }

    void fail(String what) {
        asked++;
        tell(what);
    }

    private void tell(String what) {
        wrong++;
        System.out.println(name + ": " + what);
    }

    /** Ends the program with 1 if an answer was wrong, or if nothing was asked. */
    void end() {
        System.out.println(name + ": " + asked + " asked, " + wrong + " wrong");
        if (wrong != 0 || asked == 0) {
            System.exit(1);
        }
    }
}
