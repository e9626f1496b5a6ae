/** What is due, counted: each test ends with end(). */
final class Due {
    private static int passed = 0;
    private static int failed = 0;
    /** Said ahead of what fails; empty, where the calls say it themselves. */
    private static String test = "";

    private Due() {
    }

    static void in(String name) {
        test = name + ": ";
    }

    static void is(String call, long got, long want) {
        if (got == want) {
            passed++;
        } else {
            failed++;
            System.out.println(test + call + " answered " + got + ", due is " + want);
        }
    }

    /** Every answer in turn, as one row of numbers would tell it. */
    static void are(String calls, long[] got, long... want) {
        is(calls + ": how many", got.length, want.length);
        for (int i = 0; i < Math.min(got.length, want.length); i++) {
            is(calls + ", number " + i, got[i], want[i]);
        }
    }

    static int failed() {
        return failed;
    }

    static int asked() {
        return passed + failed;
    }

    static void end() {
        System.out.println(passed + " passed, " + failed + " failed");
        if (failed != 0 || passed == 0) {
            System.exit(1);
        }
    }
}
