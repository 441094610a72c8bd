/** Promise 11, RUNNING a CALL: its arguments, its instance, and the TRAP DEPTH. */
public final class Promise11CallTest {
    private static final long BY_ZERO = StagedCompiler.BY_ZERO;
    private static final long DEPTH = StagedCompiler.DEPTH;

    public static void main(String[] args) {
        Sheet.test("Promise 11: CALL: the arguments in their places", Promise11CallTest::places);
        Sheet.test("Promise 11: CALL: the body of its own instance", Promise11CallTest::ownInstance);
        Sheet.test("Promise 11: CALL: one argument alone", Promise11CallTest::oneArgument);
        Sheet.test("Promise 11: CALL: 5 calls under way already: DEPTH", Promise11CallTest::depth);
        Sheet.test("Promise 11: CALL: the first run is no call, of whichever instance",
            Promise11CallTest::firstRun);
        Sheet.test("Promise 11: CALL: DEPTH is found before the arguments are run",
            Promise11CallTest::depthBeforeArguments);
        Sheet.test("Promise 11: CALL: a call that is over is not under way", Promise11CallTest::overCalls);
        Sheet.test("Promise 11: CALL: calls in an argument are over before it is made",
            Promise11CallTest::callsInArguments);
        Sheet.test("Promise 11: CALL: a call in an argument with 5 under way: DEPTH",
            Promise11CallTest::depthInArgument);
        Sheet.finish();
    }

    private static void places() {
        Maker m = new Maker();
        int p = m.parameter(0);
        int q = m.parameter(1);
        m.function(0, 8, 8, 8, m.call(1, q, p));
        m.function(1, 8, 8, 8, m.call(2, p, q));
        m.function(2, 8, 8, 8, m.pair(Maker.SUB, p, q));
        m.compiles("three", 0, 0, 3);
        Sheet.due("swapped", m.x.run(0, 3, 10), 7);
        Sheet.due("not swapped", m.x.run(1, 3, 10), -7);
        Sheet.due("not swapped", m.x.run(2, 3, 10), -7);
    }

    private static void ownInstance() {
        Maker m = new Maker();
        int p = m.parameter(0);
        int q = m.parameter(1);
        m.function(0, 8, 400, 8, m.pair(Maker.ADD, m.call(1, m.number(2), p), m.call(1, m.number(3), p)));
        m.function(1, 300, 8, 8, m.pair(Maker.MUL, p, q));
        m.compiles("three", 0, 0, 3);
        Sheet.due("2p + 3p", m.x.run(0, 7, 0), 35);
        Sheet.due("2p", m.x.run(1, 0, 7), 14);
        Sheet.due("3p", m.x.run(2, 0, 7), 21);
    }

    private static void oneArgument() {
        Maker m = new Maker();
        int p = m.parameter(0);
        int q = m.parameter(1);
        m.function(0, 8, 400, 8, m.pair(Maker.ADD, m.call(1, -1, p), m.call(2, m.number(-5), -1)));
        m.function(1, 400, 8, 8, q);
        m.function(2, 8, 400, 8, p);
        m.compiles("three", 0, 0, 3);
        Sheet.due("p - 5", m.x.run(0, 7, 0), 2);
    }

    /** Function 0 calls itself so many times as its argument says. */
    private static void depth() {
        Maker m = new Maker();
        int p = m.parameter(0);
        int next = m.call(0, m.pair(Maker.SUB, p, m.number(1)), -1);
        m.function(0, 8, 400, 8, m.choose(m.pair(Maker.LESS, p, m.number(1)), m.number(7), next));
        m.compiles("recursion", 0, 0, 1);
        for (int n = -1; n < 9; n++) {
            Sheet.due(n + " calls deep", m.x.run(0, n, 0), n <= 5 ? 7 : DEPTH);
        }
        m = new Maker();
        m.function(0, 400, 400, 8, m.call(0, -1, -1));
        m.compiles("without end", 0, 0, 1);
        Sheet.due("without end", m.x.run(0, 0, 0), DEPTH);
    }

    /** Function f calls f + 1, up to 7. */
    private static void firstRun() {
        Maker m = new Maker();
        for (int f = 0; f < 7; f++) {
            m.function(f, 400, 400, 8, m.call(f + 1, -1, -1));
        }
        m.function(7, 400, 400, 8, m.number(3));
        m.compiles("a chain", 0, 0, 8);
        for (int i = 0; i < 8; i++) {
            Sheet.due("run of instance " + i, m.x.run(i, 0, 0), 7 - i > 5 ? DEPTH : 3);
        }
    }

    private static void depthBeforeArguments() {
        Maker m = new Maker();
        int p = m.parameter(0);
        int less = m.pair(Maker.SUB, p, m.number(1));
        int quotient = m.pair(Maker.DIV, p, less);
        // the argument is p - 1; but its quotient is BY_ZERO once p has come down to 1
        int argument = m.pair(Maker.ADD, less, m.pair(Maker.SUB, quotient, quotient));
        m.function(0, 8, 400, 8, m.call(0, argument, -1));
        m.compiles("traps in arguments", 0, 0, 1);
        Sheet.due("the fifth call's argument traps", m.x.run(0, 5, 0), BY_ZERO);
        Sheet.due("the sixth's is not run", m.x.run(0, 6, 0), DEPTH);
        Sheet.due("nor is it later on", m.x.run(0, 7, 0), DEPTH);
    }

    /** Eight calls, one after another, each with four more inside: five at once at most. */
    private static void overCalls() {
        Maker m = new Maker();
        int call = m.call(1, -1, -1);
        int two = m.pair(Maker.ADD, call, call);
        int four = m.pair(Maker.ADD, two, two);
        m.function(0, 400, 400, 8, m.pair(Maker.ADD, four, four));
        for (int f = 1; f < 5; f++) {
            m.function(f, 400, 400, 8, m.call(f + 1, -1, -1));
        }
        m.function(5, 400, 400, 8, m.number(3));
        m.compiles("one after another", 0, 0, 6);
        Sheet.due("run", m.x.run(0, 0, 0), 24);
    }

    private static void callsInArguments() {
        for (int k = 0; k < 2; k++) {
            Maker m = new Maker();
            int p = m.parameter(k);
            int n = p;
            for (int i = 0; i < 7; i++) {
                n = callWith(m, 1, k, n);
            }
            function(m, 0, k, n);
            function(m, 1, k, m.pair(Maker.ADD, p, m.number(1)));
            m.compiles("in arguments " + k, 0, 0, 2);
            Sheet.due("seven, one after another", m.x.run(0, 1, 1), 8);
        }
    }

    /** A CALL with argument k alone. */
    private static int callWith(Maker m, int f, int k, int argument) {
        return m.call(f, k == 0 ? argument : -1, k == 1 ? argument : -1);
    }

    /** A function with parameter k alone. */
    private static void function(Maker m, int f, int k, int body) {
        m.function(f, k == 0 ? 8 : 400, k == 1 ? 8 : 400, 8, body);
    }

    /** Function 5's CALL has a CALL as its argument: with five under way neither can be made. */
    private static void depthInArgument() {
        for (int k = 0; k < 2; k++) {
            Maker m = new Maker();
            int p = m.parameter(k);
            for (int f = 0; f < 5; f++) {
                function(m, f, k, callWith(m, f + 1, k, p));
            }
            function(m, 5, k, callWith(m, 6, k, callWith(m, 6, k, p)));
            function(m, 6, k, p);
            m.compiles("a chain", 0, 0, 7);
            Sheet.due("five under way", m.x.run(0, 1, 1), DEPTH);
            Sheet.due("four under way", m.x.run(1, 1, 1), 1);
        }
    }
}
