/** Promise 11: run: its arguments, and RUNNING of what is no pair and no CALL. */
public final class Promise11RunTest {
    private static final long NONE = StagedCompiler.NONE;
    private static final long OVERFLOW = StagedCompiler.OVERFLOW;
    private static final long BY_ZERO = StagedCompiler.BY_ZERO;

    public static void main(String[] args) {
        Sheet.test("Promise 11: no such instance: NONE", Promise11RunTest::noInstance);
        Sheet.test("Promise 11: a at the ends of its parameter's range, and out of it: NONE",
            Promise11RunTest::firstArgument);
        Sheet.test("Promise 11: b at the ends of its parameter's range, and out of it: NONE",
            Promise11RunTest::secondArgument);
        Sheet.test("Promise 11: TRUTH: 0 or 1, else NONE", Promise11RunTest::truthArgument);
        Sheet.test("Promise 11: an argument that no node uses is looked at too", Promise11RunTest::unused);
        Sheet.test("Promise 11: what a parameter with code 300 gets is not looked at", Promise11RunTest::forCount);
        Sheet.test("Promise 11: what a parameter with code 400 gets is not looked at", Promise11RunTest::forNone);
        Sheet.test("Promise 11: the range is the one in that instance", Promise11RunTest::byInstance);
        Sheet.test("Promise 11: KNOWN: its value, TRUTH as 1 and 0", Promise11RunTest::known);
        Sheet.test("Promise 11: IF: b or c alone is run", Promise11RunTest::oneBranch);
        Sheet.test("Promise 11: IF whose a is KNOWN: the branch that was LOOKED AT", Promise11RunTest::knownIf);
        Sheet.test("Promise 11: CAST out of the range: OVERFLOW", Promise11RunTest::casts);
        Sheet.test("Promise 11: the first TRAP ends all", Promise11RunTest::firstTrap);
        Sheet.test("Promise 11: a run changes no instance", Promise11RunTest::again);
        Sheet.finish();
    }

    private static void noInstance() {
        Maker m = new Maker();
        m.function(0, 400, 400, 8, m.number(1));
        m.function(1, 400, 400, 0, 0);
        Sheet.due("before compile", m.x.run(0, 0, 0), NONE);
        m.compiles("one", 0, 0, 1);
        Sheet.due("there", m.x.run(0, 0, 0), 1);
        for (int bad : new int[] {Maker.MIN, -1, 1, 19, 20, Maker.MAX}) {
            Sheet.due("instance " + bad, m.x.run(bad, 0, 0), NONE);
        }
        Sheet.due("an error", m.x.compile(1, 0, 0), StagedCompiler.TYPE);
        Sheet.due("after it", m.x.run(0, 0, 0), NONE);
    }

    /** What is due for an argument of a parameter that is the body. */
    private static void argument(Maker m, int k, int type, long argument) {
        if (argument < Maker.MIN || argument > Maker.MAX) {
            return;
        }
        int a = (int) argument;
        boolean good = argument >= Maker.low(type) && argument <= Maker.high(type);
        long got = k == 0 ? m.x.run(0, a, 0) : m.x.run(0, 0, a);
        Sheet.due(argument + " for parameter " + k + " of " + type, got, good ? a : NONE);
    }

    private static void argumentsOfEachType(int k) {
        for (int type = -31; type <= 31; type++) {
            Maker m = new Maker();
            m.function(0, k == 0 ? type : 8, k == 1 ? type : -8, type, m.parameter(k));
            m.compiles("type " + type, 0, 0, 1);
            argument(m, k, type, Maker.low(type));
            argument(m, k, type, Maker.high(type));
            argument(m, k, type, Maker.low(type) - 1);
            argument(m, k, type, Maker.high(type) + 1);
            argument(m, k, type, Maker.MIN);
            argument(m, k, type, Maker.MAX);
        }
    }

    private static void firstArgument() {
        argumentsOfEachType(0);
    }

    private static void secondArgument() {
        argumentsOfEachType(1);
    }

    private static void truthArgument() {
        Maker m = new Maker();
        m.function(0, 0, 0, 0, m.pair(Maker.SAME, m.parameter(0), m.parameter(1)));
        m.compiles("TRUTHs", 0, 0, 1);
        for (int a = -2; a <= 3; a++) {
            for (int b = -2; b <= 3; b++) {
                boolean good = (a == 0 || a == 1) && (b == 0 || b == 1);
                Sheet.due(a + " and " + b, m.x.run(0, a, b), !good ? NONE : a == b ? 1 : 0);
            }
        }
        Sheet.due("least", m.x.run(0, Maker.MIN, 0), NONE);
        Sheet.due("greatest", m.x.run(0, 0, Maker.MAX), NONE);
    }

    private static void unused() {
        Maker m = new Maker();
        m.function(0, 8, -8, 8, m.number(1));
        m.compiles("unused parameters", 0, 0, 1);
        Sheet.due("good", m.x.run(0, 127, 255), 1);
        Sheet.due("good", m.x.run(0, -128, 0), 1);
        Sheet.due("first", m.x.run(0, 128, 0), NONE);
        Sheet.due("second", m.x.run(0, 0, 256), NONE);
        Sheet.due("second", m.x.run(0, 0, -1), NONE);
        Sheet.due("both", m.x.run(0, -129, -1), NONE);
    }

    private static void forCount() {
        for (int wild : new int[] {Maker.MIN, -1, 0, 6, 32, Maker.MAX}) {
            Maker m = new Maker();
            m.function(0, 300, 300, 8, m.pair(Maker.SUB, m.parameter(0), m.parameter(1)));
            m.compiles("COUNTs", 5, 3, 1);
            Sheet.due("first", m.x.run(0, wild, 0), 2);
            Sheet.due("second", m.x.run(0, 0, wild), 2);
            Sheet.due("both", m.x.run(0, wild, wild), 2);
        }
    }

    private static void forNone() {
        for (int wild : new int[] {Maker.MIN, -1, 0, 6, 32, Maker.MAX}) {
            Maker m = new Maker();
            m.function(0, 400, 400, 8, m.number(7));
            m.compiles("no parameters", 5, 3, 1);
            Sheet.due("first", m.x.run(0, wild, 0), 7);
            Sheet.due("second", m.x.run(0, 0, wild), 7);
            Sheet.due("both", m.x.run(0, wild, wild), 7);
        }
    }

    private static void byInstance() {
        Maker m = new Maker();
        m.function(0, 300, 200, 200, m.parameter(1));
        for (int w = 1; w <= 31; w++) {
            m.compiles("UNSIGNED " + w, w, 0, 1);
            int high = (int) Maker.high(-w);
            Sheet.due("in its range", m.x.run(0, 99, high), high);
            Sheet.due("below it", m.x.run(0, 99, -1), NONE);
            if (w < 31) {
                Sheet.due("above it", m.x.run(0, 99, high + 1), NONE);
            }
        }
    }

    private static void known() {
        for (int v : new int[] {-128, 0, 127}) {
            Maker m = new Maker();
            m.function(0, 300, 400, 8, m.parameter(0));
            m.compiles("a COUNT", v, 0, 1);
            Sheet.due("run", m.x.run(0, 1, 1), v);
        }
        Maker m = new Maker();
        m.function(0, 400, 400, 0, m.yes());
        m.function(1, 400, 400, 0, m.no());
        m.compiles("true", 0, 0, 1);
        Sheet.due("run", m.x.run(0, 0, 0), 1);
        Sheet.due("false", m.x.compile(1, 0, 0), 1);
        Sheet.due("run", m.x.run(0, 0, 0), 0);
        m = new Maker();
        m.function(0, 0, 400, 0, m.pair(Maker.SAME, m.parameter(0), m.yes()));
        m.compiles("a known TRUTH as an operand", 0, 0, 1);
        Sheet.due("run of 1", m.x.run(0, 1, 0), 1);
        Sheet.due("run of 0", m.x.run(0, 0, 0), 0);
    }

    private static void oneBranch() {
        Maker m = new Maker();
        int bad = m.pair(Maker.DIV, m.parameter(1), m.number(0));
        m.function(0, 0, 8, 8, m.choose(m.parameter(0), bad, m.number(9)));
        m.function(1, 0, 8, 8, m.choose(m.parameter(0), m.number(9), bad));
        m.compiles("b is bad", 0, 0, 1);
        Sheet.due("b", m.x.run(0, 1, 4), BY_ZERO);
        Sheet.due("c", m.x.run(0, 0, 4), 9);
        Sheet.due("c is bad", m.x.compile(1, 0, 0), 1);
        Sheet.due("b", m.x.run(0, 1, 4), 9);
        Sheet.due("c", m.x.run(0, 0, 4), BY_ZERO);
    }

    private static void knownIf() {
        Maker m = new Maker();
        int isNegative = m.pair(Maker.LESS, m.parameter(1), m.number(0));
        int minusOne = m.pair(Maker.SUB, m.parameter(0), m.number(1));
        int plusOne = m.pair(Maker.ADD, m.parameter(0), m.number(1));
        m.function(0, 8, 300, 8, m.choose(isNegative, minusOne, plusOne));
        m.compiles("known to be false", 0, 0, 1);
        Sheet.due("c", m.x.run(0, 5, 0), 6);
        m.compiles("known to be true", 0, -1, 1);
        Sheet.due("b", m.x.run(0, 5, 0), 4);
    }

    private static void cast(int from, int to, long argument) {
        Maker m = new Maker();
        m.function(0, from, 400, to, m.cast(m.parameter(0), to));
        m.compiles(from + " to " + to, 0, 0, 1);
        boolean good = argument >= Maker.low(to) && argument <= Maker.high(to);
        Sheet.due(argument + " to " + to, m.x.run(0, (int) argument, 0), good ? argument : OVERFLOW);
    }

    private static void casts() {
        for (int w = 1; w <= 30; w++) {
            cast(31, w, Maker.low(w));
            cast(31, w, Maker.low(w) - 1);
            cast(31, w, Maker.high(w));
            cast(31, w, Maker.high(w) + 1);
            cast(-31, -w, 0);
            cast(-31, -w, Maker.high(-w));
            cast(-31, -w, Maker.high(-w) + 1);
            cast(31, -w, -1);
        }
        cast(-31, 31, Maker.high(31));
        cast(-31, 31, Maker.high(31) + 1);
        cast(31, -31, -1);
        cast(8, 9, -128);
        cast(8, 8, -128);
        Maker m = new Maker();
        m.function(0, 300, 8, 200, m.cast(m.parameter(1), 200));
        m.compiles("CAST by a parameter", 3, 0, 1);
        Sheet.due("7", m.x.run(0, 0, 7), 7);
        Sheet.due("8", m.x.run(0, 0, 8), OVERFLOW);
    }

    private static void firstTrap() {
        Maker m = new Maker();
        int p = m.parameter(0);
        int byZero = m.pair(Maker.DIV, p, m.number(0));
        int overflow = m.pair(Maker.ADD, p, m.number(127));
        m.function(0, 8, 400, 8, m.pair(Maker.ADD, byZero, overflow));
        m.function(1, 8, 400, 8, m.pair(Maker.ADD, overflow, byZero));
        m.function(2, 8, 400, 8, m.cast(byZero, 8));
        m.function(3, 8, 400, 8, m.call(7, byZero, overflow));
        m.function(4, 8, 400, 8, m.call(7, p, overflow));
        m.function(5, 8, 400, 8, m.choose(m.pair(Maker.LESS, overflow, p), byZero, p));
        m.function(6, 8, 400, 8, m.pair(Maker.CLAMPADD, p, overflow));
        m.function(7, 8, 8, 8, byZero);
        long[] due = {BY_ZERO, OVERFLOW, BY_ZERO, BY_ZERO, OVERFLOW, OVERFLOW, OVERFLOW};
        for (int f = 0; f < 7; f++) {
            Sheet.due("compile " + f, m.x.compile(f, 0, 0), f == 3 || f == 4 ? 2 : 1);
            Sheet.due("the first trap of " + f, m.x.run(0, 1, 0), due[f]);
        }
    }

    private static void again() {
        Maker m = new Maker();
        int body = m.pair(Maker.DIV, m.parameter(0), m.parameter(1));
        m.function(0, 8, 8, 8, body);
        m.compiles("one", 0, 0, 1);
        for (int i = 1; i < 10; i++) {
            Sheet.due("good", m.x.run(0, 100, i), 100 / i);
            Sheet.due("a TRAP", m.x.run(0, 100, 0), BY_ZERO);
            Sheet.due("NONE", m.x.run(0, 100, 128), NONE);
        }
        Sheet.due("instances", m.x.count(2), 1);
        Sheet.due("type", m.x.typeOf(0, body), 8);
        Sheet.due("known", m.x.known(0, body), NONE);
    }
}
