import java.util.NoSuchElementException;

/** Counts what was checked, and prints what was not as due. */
final class Check {
    static final Class<?> INDEX = IndexOutOfBoundsException.class;
    static final Class<?> ARGUMENT = IllegalArgumentException.class;
    static final Class<?> UNSUPPORTED = UnsupportedOperationException.class;
    static final Class<?> STATE = IllegalStateException.class;
    static final Class<?> NONE_SUCH = NoSuchElementException.class;

    private int passed = 0;
    private int failed = 0;

    int passed() {
        return passed;
    }

    int failed() {
        return failed;
    }

    void same(String what, Object got, Object due) {
        if (due.equals(got)) {
            passed++;
        } else {
            failed++;
            System.out.println(what + ": answered " + got + ", due is " + due);
        }
    }

    void yes(String what, boolean got) {
        same(what, got, true);
    }

    void no(String what, boolean got) {
        same(what, got, false);
    }

    /** The very class is compared: what the machine throws is often a subclass of what is due. */
    void refuses(String what, Deckmill mill, Class<?> due, Runnable call) {
        String before = Snapshot.of(mill);
        Class<?> got = null;
        try {
            call.run();
        } catch (RuntimeException thrown) {
            got = thrown.getClass();
        }
        same(what + " throws", String.valueOf(got), String.valueOf(due));
        same(what + " changes nothing", Snapshot.of(mill), before);
    }
}
