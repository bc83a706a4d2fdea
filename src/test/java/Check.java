/** Counts what was checked, and prints what was not as due. */
final class Check {
    private int passed = 0;
    private int failed = 0;

    int passed() {
        return passed;
    }

    int failed() {
        return failed;
    }

    void same(String what, Object got, Object due) {
        if (due.equals(got)) {
            passed++;
        } else {
            failed++;
            System.out.println(what + ": answered " + got + ", due is " + due);
        }
    }

    void yes(String what, boolean got) {
        same(what, got, true);
    }

    void no(String what, boolean got) {
        same(what, got, false);
    }
}
