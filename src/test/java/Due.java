/** Counts answers that are as due, and prints those that are not. */
final class Due {
    private static int passed = 0;
    private static int failed = 0;

    private Due() {
    }

    static void is(String what, long got, long want) {
        if (got == want) {
            passed++;
        } else {
            failed++;
            if (failed <= 200) {
                System.out.println(what + " answered " + got + ", due is " + want);
            }
        }
    }

    static int failures() {
        return failed;
    }

    static void close() {
        System.out.println(passed + " passed, " + failed + " failed");
    }
}
