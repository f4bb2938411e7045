/** Counts what is not as due; one object for each test class. */
final class Checks {
    interface Call { void run(); }

    private final String name;
    private int wrong;
    private int made;

    Checks(String name) { this.name = name; }

    void due(String what, long got, long want) {
        made++;
        if (got != want) tell(what + " answered " + got + ", due is " + want);
    }

    void due(String what, boolean got, boolean want) { due(what, got ? 1 : 0, want ? 1 : 0); }

    /** The call throws by a throw statement of the class: what the machine throws has a message. */
    void thrown(String what, Class<? extends RuntimeException> want, Call call) {
        made++;
        RuntimeException got = null;
        try { call.run(); } catch (RuntimeException e) { got = e; }
        if (got == null) tell(what + " threw nothing, due is " + want.getName());
        else if (got.getClass() != want || got.getMessage() != null) tell(what + " threw " + got + ", due is " + want.getName());
    }

    void index(String what, Call call) { thrown(what, IndexOutOfBoundsException.class, call); }
    void argument(String what, Call call) { thrown(what, IllegalArgumentException.class, call); }
    void state(String what, Call call) { thrown(what, IllegalStateException.class, call); }

    void tell(String what) {
        wrong++;
        if (wrong <= 40) System.out.println(name + ": " + what);
    }

    void close() {
        System.out.println(name + ": " + made + " checks, " + wrong + " wrong");
        if (wrong != 0 || made == 0) System.exit(1);
    }
}
