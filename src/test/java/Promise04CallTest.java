/** Promise 4, LOOKING AT kind 15, CALL; Promise04InstanceTest asks for the instances it wants. */
public final class Promise04CallTest {
    private static final int TYPE = StagedCompiler.TYPE;
    private static final int RANGE = StagedCompiler.RANGE;
    private static final int WIDTH = StagedCompiler.WIDTH;
    private static final int CALL = StagedCompiler.CALL;
    private static final int DIVISION = StagedCompiler.DIVISION;
    private static final int[] PARAMETERS = {300, 8, -8, 0, 31};

    public static void main(String[] args) {
        Sheet.test("Promise 4: CALL of a function that is not defined: CALL", Promise04CallTest::notDefined);
        Sheet.test("Promise 4: a first argument where the parameter has code 400: CALL",
            Promise04CallTest::needlessFirst);
        Sheet.test("Promise 4: a second argument where the parameter has code 400: CALL",
            Promise04CallTest::needlessSecond);
        Sheet.test("Promise 4: no first argument where the parameter has not code 400: CALL",
            Promise04CallTest::noFirst);
        Sheet.test("Promise 4: no second argument where the parameter has not code 400: CALL",
            Promise04CallTest::noSecond);
        Sheet.test("Promise 4: no argument where both parameters have code 400: fine", Promise04CallTest::noneDue);
        Sheet.test("Promise 4: the arguments are LOOKED AT, the first one first", Promise04CallTest::lookedAt);
        Sheet.test("Promise 4: not COUNT for a COUNT parameter: TYPE", Promise04CallTest::notCount);
        Sheet.test("Promise 4: TYPE for a COUNT parameter comes before what the others are",
            Promise04CallTest::countsFirst);
        Sheet.test("Promise 4: TYPE for a COUNT parameter comes before WIDTH", Promise04CallTest::countsBeforeWidth);
        Sheet.test("Promise 4: WIDTH comes before the other arguments", Promise04CallTest::widthFirst);
        Sheet.test("Promise 4: COUNT in the range for an INT parameter: fine", Promise04CallTest::inRange);
        Sheet.test("Promise 4: COUNT out of the range for an INT parameter: RANGE",
            Promise04CallTest::outOfRange);
        Sheet.test("Promise 4: the very same TYPE: fine", Promise04CallTest::sameType);
        Sheet.test("Promise 4: another TYPE: TYPE", Promise04CallTest::otherType);
        Sheet.test("Promise 4: COUNT for a TRUTH parameter: TYPE", Promise04CallTest::countForTruth);
        Sheet.test("Promise 4: a parameter's type is the one in that instance", Promise04CallTest::byInstance);
        Sheet.test("Promise 4: the other arguments in order", Promise04CallTest::inOrder);
        Sheet.test("Promise 4: CALL has the instance's result type and is not KNOWN",
            Promise04CallTest::resultType);
        Sheet.finish();
    }

    private static void notDefined() {
        for (int f = 1; f < 8; f++) {
            Maker m = new Maker();
            int broken = m.broken();
            int n = m.call(f, broken, broken);
            m.function(0, 400, 400, 8, n);
            m.fails("before its arguments are LOOKED AT", 0, 0, CALL, 0, n);
            m = new Maker();
            n = m.call(f, -1, -1);
            m.function(0, 400, 400, 8, n);
            m.fails("CALL of " + f, 0, 0, CALL, 0, n);
            m.function(f, 400, 400, 8, m.number(5));
            m.compiles("when it is defined", 0, 0, 2);
        }
    }

    /** Function 1 has the parameters; broken arguments, which are not looked at, are given by given. */
    private static void given(int first, int second, String given) {
        Maker m = new Maker();
        int broken = m.broken();
        int n = m.call(1, given.charAt(0) == 'a' ? broken : -1, given.charAt(1) == 'a' ? broken : -1);
        m.function(0, 400, 400, 8, n);
        m.function(1, first, second, 8, m.number(0));
        m.fails(first + " and " + second + " given " + given, 0, 0, CALL, 0, n);
    }

    private static void needlessFirst() {
        given(400, 400, "a-");
        for (int other : PARAMETERS) {
            given(400, other, "aa");
        }
    }

    private static void needlessSecond() {
        given(400, 400, "-a");
        for (int other : PARAMETERS) {
            given(other, 400, "aa");
        }
    }

    private static void noFirst() {
        for (int parameter : PARAMETERS) {
            given(parameter, 400, "--");
            given(parameter, 8, "-a");
        }
    }

    private static void noSecond() {
        for (int parameter : PARAMETERS) {
            given(400, parameter, "--");
            given(8, parameter, "a-");
        }
    }

    private static void noneDue() {
        Maker m = new Maker();
        m.function(0, 400, 400, 8, m.call(1, -1, -1));
        m.function(1, 400, 400, 8, m.number(5));
        m.compiles("none", 0, 0, 2);
        m = new Maker();
        int p = m.parameter(0);
        m.function(0, 8, 400, 8, m.call(1, p, -1));
        m.function(1, 8, 400, 8, p);
        m.compiles("the first alone", 0, 0, 2);
        m = new Maker();
        p = m.parameter(0);
        m.function(0, 8, 400, 8, m.call(1, -1, p));
        m.function(1, 400, 8, 8, m.parameter(1));
        m.compiles("the second alone", 0, 0, 2);
    }

    private static void lookedAt() {
        Maker m = new Maker();
        int broken = m.broken();
        int missing = m.parameter(0);
        m.function(0, 400, 400, 8, m.call(7, broken, missing));
        m.function(1, 400, 400, 8, m.call(7, missing, broken));
        m.function(2, 400, 400, 8, m.call(7, m.yes(), broken));
        m.function(3, 400, 400, 8, m.call(6, m.number(500), broken));
        m.function(7, 300, 8, 8, m.number(0));
        m.function(6, 8, 300, 8, m.number(0));
        int[] errors = {DIVISION, TYPE, DIVISION, DIVISION};
        int[] places = {broken, missing, broken, broken};
        for (int f = 0; f < 4; f++) {
            Sheet.due("function " + f, m.x.compile(f, 0, 0), errors[f]);
            Sheet.due("errorAt", m.x.errorAt(), 64 * f + places[f]);
        }
    }

    /**
     * Function 1 has the code as its parameter k; what it gets is function 0's parameter of the type,
     * which is the value if it is a COUNT one.
     */
    private static void argument(int k, int code, int type, int value, int error) {
        Maker m = new Maker();
        int p = m.parameter(0);
        int n = m.call(1, k == 0 ? p : -1, k == 1 ? p : -1);
        m.function(0, type, 400, 0, n);
        m.function(1, k == 0 ? code : 400, k == 1 ? code : 400, 0, m.yes());
        m.answers(type + " " + value + " for " + code + " as argument " + k, value, 0, error, n, 2);
    }

    private static void arguments(int code, int type, int value, int error) {
        argument(0, code, type, value, error);
        argument(1, code, type, value, error);
    }

    private static void notCount() {
        for (int type : new int[] {8, 31, -1, -8, 0}) {
            arguments(300, type, 0, TYPE);
        }
        arguments(300, 300, Maker.MIN, 0);
        arguments(300, 300, Maker.MAX, 0);
        Maker m = new Maker();
        int n = m.call(1, m.cast(m.number(3), 8), -1);
        m.function(0, 400, 400, 8, n);
        m.function(1, 300, 400, 8, m.number(0));
        m.fails("a KNOWN one of an INT type is no COUNT", 0, 0, TYPE, 0, n);
        m = new Maker();
        n = m.call(1, m.yes(), -1);
        m.function(0, 400, 400, 8, n);
        m.function(1, 300, 400, 8, m.number(0));
        m.fails("a KNOWN TRUTH is no COUNT", 0, 0, TYPE, 0, n);
    }

    /** The CALL of function 1 is with the two arguments; TYPE and RANGE are both at it. */
    private static void both(Maker m, int first, int second, int b, int c, int error) {
        int n = m.call(1, b, c);
        m.function(0, 8, 400, 8, n);
        m.function(1, first, second, 8, m.number(0));
        m.answers(first + " and " + second, 0, 0, error, n, 2);
    }

    private static void countsFirst() {
        Maker m = new Maker();
        both(m, 8, 300, m.number(500), m.parameter(0), TYPE);
        m = new Maker();
        both(m, 300, 8, m.parameter(0), m.number(500), TYPE);
        m = new Maker();
        both(m, 8, 300, m.number(500), m.number(5), RANGE);
    }

    private static void countsBeforeWidth() {
        Maker m = new Maker();
        both(m, 101, 300, m.number(0), m.parameter(0), TYPE);
        m = new Maker();
        both(m, 300, 300, m.number(0), m.parameter(0), TYPE);
        m = new Maker();
        both(m, 101, 300, m.number(0), m.cast(m.number(0), 8), TYPE);
        m = new Maker();
        int n = m.call(1, m.parameter(0), m.number(0));
        m.function(0, 8, 400, 8, n);
        m.function(1, 300, 300, 101, m.number(0));
        m.fails("a result's width", 0, 0, TYPE, 0, n);
    }

    private static void widthFirst() {
        for (int width : new int[] {0, 32}) {
            Maker m = new Maker();
            both(m, 101, 300, m.number(500), m.number(width), WIDTH);
            m = new Maker();
            both(m, 300, 200, m.number(width), m.yes(), WIDTH);
        }
        Maker m = new Maker();
        both(m, 101, 300, m.number(500), m.number(9), RANGE);
        m = new Maker();
        both(m, 300, 200, m.number(9), m.yes(), TYPE);
    }

    private static void inRange() {
        for (int w = 1; w <= 31; w++) {
            arguments(w, 300, (int) Maker.low(w), 0);
            arguments(w, 300, (int) Maker.high(w), 0);
            arguments(-w, 300, 0, 0);
            arguments(-w, 300, (int) Maker.high(-w), 0);
        }
    }

    private static void outOfRange() {
        for (int w = 1; w <= 31; w++) {
            arguments(w, 300, (int) Maker.low(w) - 1, RANGE);
            arguments(w, 300, (int) Maker.high(w) + 1, RANGE);
            arguments(-w, 300, -1, RANGE);
            if (w < 31) {
                arguments(-w, 300, (int) Maker.high(-w) + 1, RANGE);
            }
        }
        Maker m = new Maker();
        both(m, -31, 400, m.greatest(), -1, RANGE);
    }

    private static void sameType() {
        for (int type = -31; type <= 31; type++) {
            arguments(type, type, 0, 0);
        }
    }

    private static void otherType() {
        for (int type : new int[] {2, 8, 31, -2, -8, -31}) {
            arguments(type, -type, 0, TYPE);
            arguments(type, type > 0 ? type - 1 : type + 1, 0, TYPE);
            arguments(type, 0, 0, TYPE);
            arguments(0, type, 0, TYPE);
        }
        Maker m = new Maker();
        both(m, 9, 400, m.cast(m.number(1), 8), -1, TYPE);
    }

    private static void countForTruth() {
        for (int value = -1; value <= 2; value++) {
            arguments(0, 300, value, TYPE);
        }
    }

    private static void byInstance() {
        int[][] rows = {{101, 4, 4, 0}, {101, 5, 4, TYPE}, {101, -4, 4, TYPE}, {201, -4, 4, 0}, {201, 4, 4, TYPE}};
        for (int[] row : rows) {
            Maker m = new Maker();
            int n = m.call(1, m.parameter(0), m.number(row[2]));
            m.function(0, row[1], 400, 8, n);
            m.function(1, row[0], 300, 8, m.number(0));
            m.answers("of TYPE " + row[1], 0, 0, row[3], n, 2);
        }
        int[][] ends = {{101, -9, RANGE}, {101, -8, 0}, {101, 7, 0}, {101, 8, RANGE},
            {201, -1, RANGE}, {201, 0, 0}, {201, 15, 0}, {201, 16, RANGE}};
        for (int[] end : ends) {
            Maker m = new Maker();
            both(m, end[0], 300, m.number(end[1]), m.number(4), end[2]);
        }
    }

    private static void inOrder() {
        Maker m = new Maker();
        both(m, 8, 9, m.number(500), m.parameter(0), RANGE);
        m = new Maker();
        both(m, 9, 8, m.parameter(0), m.number(500), TYPE);
        m = new Maker();
        both(m, 8, 8, m.parameter(0), m.number(500), RANGE);
        m = new Maker();
        both(m, 8, 9, m.number(5), m.parameter(0), TYPE);
    }

    private static void resultType() {
        for (int type = -31; type <= 31; type++) {
            Maker m = new Maker();
            int n = m.call(1, -1, -1);
            m.function(0, 400, 400, type, n);
            m.function(1, 400, 400, type, type == 0 ? m.no() : m.number(0));
            m.compiles("result " + type, 0, 0, 2);
            Sheet.due("type", m.x.typeOf(0, n), type);
            Sheet.due("known", m.x.known(0, n), StagedCompiler.NONE);
        }
        for (int code : new int[] {100, 200}) {
            Maker m = new Maker();
            int n = m.call(1, m.number(12), -1);
            m.function(0, 400, 400, code == 100 ? 12 : -12, n);
            m.function(1, 300, 400, code, m.number(0));
            m.compiles("result " + code, 0, 0, 2);
            Sheet.due("type", m.x.typeOf(0, n), code == 100 ? 12 : -12);
        }
    }
}
