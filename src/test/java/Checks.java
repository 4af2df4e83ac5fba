/** Counts answers that are due and those that are not; each test class ends with {@link #end}. */
final class Checks {
    interface Call {
        Object run();
    }

    private final String title;
    private int passed;
    private int failed;

    Checks(String title) {
        this.title = title;
    }

    void due(String what, long got, long want) {
        note(got == want, what, got, want);
    }

    void dueDouble(String what, double got, double want) {
        note(got == want, what, got, want);
    }

    void holds(String what, boolean got) {
        note(got, what, got, true);
    }

    void equal(String what, Object got, Object want) {
        note(want.equals(got), what, got, want);
    }

    void index(String what, Call call) {
        throwing(what, IndexOutOfBoundsException.class, call);
    }

    void argument(String what, Call call) {
        throwing(what, IllegalArgumentException.class, call);
    }

    void state(String what, Call call) {
        throwing(what, IllegalStateException.class, call);
    }

    /** The call throws just this exception, none below it, and leaves the state as it was. */
    void unchanged(String what, BarForger forger, Class<?> kind, Call call) {
        long before = forger.digest();
        throwing(what, kind, call);
        due(what + " changes nothing", forger.digest(), before);
    }

    void end() {
        System.out.println(title + ": " + passed + " answers as due, " + failed + " not");
        if (failed > 0 || passed == 0) {
            System.exit(1);
        }
    }

    private void throwing(String what, Class<?> want, Call call) {
        Object got;
        try {
            got = call.run();
        } catch (RuntimeException thrown) {
            got = thrown.getClass();
        }
        note(want.equals(got), what, got, want);
    }

    private void note(boolean good, String what, Object got, Object want) {
        if (good) {
            passed++;
        } else {
            failed++;
            System.out.println(title + ": " + what + " answered " + got + ", due is " + want);
        }
    }
}
