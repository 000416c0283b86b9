/** Counts the answers that are as due, and prints those that are not. */
final class Due {
    private static int passed = 0;
    private static int failed = 0;

    private Due() {
    }

    static void is(String call, long got, long want) {
        if (got == want) {
            passed++;
        } else {
            failed++;
            System.out.println(call + " answered " + got + ", due is " + want);
        }
    }

    static void holds(String what, boolean so) {
        is(what, so ? 1 : 0, 1);
    }

    /** Ends the program: with 1 if an answer was not as due, or if nothing was looked at. */
    static void close() {
        System.out.println(passed + " passed, " + failed + " failed");
        System.exit(failed == 0 && passed > 0 ? 0 : 1);
    }
}
