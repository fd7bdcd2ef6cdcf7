/** Counts the answers that are as due, and prints the others. */
final class Check {
    private final String name;
    private int passed = 0;
    private int failed = 0;

    Check(String name) {
        this.name = name;
    }

    void same(String what, long got, long want) {
        note(got == want, what + " answered " + got + ", due is " + want);
    }

    void same(String what, double got, double want) {
        note(got == want, what + " answered " + got + ", due is " + want);
    }

    void same(String what, String got, String want) {
        note(got.equals(want), what + " answered '" + got + "', due is '" + want + "'");
    }

    void yes(String what, boolean got) {
        note(got, what + " does not hold");
    }

    /** The call throws just this exception: a subclass would be the machine's own. */
    void fails(String what, Class<? extends RuntimeException> due, Runnable call) {
        Class<?> got = null;
        try {
            call.run();
        } catch (RuntimeException e) {
            got = e.getClass();
        }
        note(got == due, what + " threw " + got + ", due is " + due);
    }

    void denied(String what, JamBridge bridge, int number, int detail, Runnable call) {
        fails(what, UnsupportedOperationException.class, call);
        same(what + ": denial", bridge.denial(), number);
        same(what + ": detail", bridge.denialDetail(), detail);
        if (number != 8) {
            fails(what + ": cause", java.util.NoSuchElementException.class, bridge::denialCause);
        }
    }

    void end() {
        System.out.println(name + ": " + passed + " checks as due, " + failed + " not");
        if (failed > 0 || passed == 0) {
            System.exit(1);
        }
    }

    private void note(boolean asDue, String message) {
        if (asDue) {
            passed++;
        } else {
            failed++;
            System.out.println(name + ": " + message);
        }
    }
}
