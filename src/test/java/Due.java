/** Counts the answers of one test and prints those that are not the due ones. */
final class Due {
    private final String test;
    private int passed = 0;
    private int failed = 0;
    private String part = "";

    Due(String test) {
        this.test = test;
    }

    void part(String name) {
        part = name;
    }

    void is(String call, long got, long want) {
        if (got == want) {
            passed++;
            return;
        }
        failed++;
        System.out.println(test + ", " + part + ": " + call + " answered " + got + ", due is " + want);
    }

    void is(String call, boolean got, boolean want) {
        is(call, got ? 1 : 0, want ? 1 : 0);
    }

    int failed() {
        return failed;
    }

    void end() {
        System.out.println(test + ": " + passed + " answers as due, " + failed + " not");
        if (failed != 0) {
            System.exit(1);
        }
    }
}
