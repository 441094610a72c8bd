/**
 * Runs tests and counts the answers that are not as due. A test is named after its promise and the
 * sentence that it asks for; each main method ends with finish.
 */
final class Sheet {
    private static final int MOST_TOLD = 20;

    private static int tests = 0;
    private static int failed = 0;
    private static int asked = 0;
    private static int wrong = 0;
    private static int told = 0;
    private static String test = "";

    private Sheet() {
    }

    /** A test of its own: it fails if an answer is not as due, if it asks for none, or if it throws. */
    static void test(String name, Runnable asks) {
        tests++;
        test = name;
        told = 0;
        int askedBefore = asked;
        int wrongBefore = wrong;
        try {
            asks.run();
        } catch (RuntimeException | StackOverflowError thrown) {
            wrong++;
            tell("threw " + thrown);
        }
        boolean fine = wrong == wrongBefore && asked > askedBefore;
        if (!fine) {
            failed++;
        }
        System.out.println((fine ? "ok      " : "FAILED  ") + name);
        test = "";
    }

    static void due(String what, long got, long want) {
        asked++;
        if (got != want) {
            wrong++;
            tell(what + " answered " + got + ", due is " + want);
        }
    }

    /** One broken sentence can spoil thousands of answers: the first few tell enough. */
    private static void tell(String what) {
        told++;
        if (told <= MOST_TOLD) {
            System.out.println(test + ": " + what);
        }
    }

    static void finish() {
        System.out.println(tests + " tests, " + failed + " failed; "
            + asked + " answers asked for, " + wrong + " not as due");
        if (failed != 0 || wrong != 0 || asked == 0) {
            System.exit(1);
        }
    }
}
