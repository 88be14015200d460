/** Counts what is not as due, and ends a test with exit code 1 if there was any. */
final class Check {
    private final String name;
    private String words = "";
    private int looked;
    private int wrong;

    Check(String name) {
        this.name = name;
    }

    /** Runs the test of some words of the document; a program that throws has failed it. */
    void words(String quote, Runnable test) {
        words = " \"" + quote + "\"";
        int before = looked;
        try {
            test.run();
        } catch (RuntimeException | StackOverflowError e) {
            same("a call", "with " + e, "without an exception");
        }
        that("something was looked at", looked > before);
        words = "";
    }

    void due(String what, long got, long want) {
        same(what, Long.toString(got), Long.toString(want));
    }

    void that(String what, boolean holds) {
        same(what, holds ? "true" : "false", "true");
    }

    void same(String what, String got, String want) {
        looked++;
        if (!got.equals(want)) {
            wrong++;
            System.out.println(name + words + ": " + what + " answered " + got + ", due is " + want);
        }
    }

    int wrong() {
        return wrong;
    }

    void end() {
        System.out.println(name + ": " + looked + " answers, " + wrong + " not as due");
        if (wrong != 0) {
            System.exit(1);
        }
    }
}
