/** Promise 4, COMPILING: the body against the result type. */
public final class Promise04BodyTest {
    private static final int TYPE = StagedCompiler.TYPE;
    private static final int RANGE = StagedCompiler.RANGE;

    public static void main(String[] args) {
        Sheet.test("Promise 4: the body is of the result type: fine", Promise04BodyTest::sameType);
        Sheet.test("Promise 4: the body is COUNT in the result's range: fine", Promise04BodyTest::inRange);
        Sheet.test("Promise 4: the body is COUNT out of the result's range: RANGE", Promise04BodyTest::outOfRange);
        Sheet.test("Promise 4: the body is COUNT, the result TRUTH: TYPE", Promise04BodyTest::countForTruth);
        Sheet.test("Promise 4: the body is of another type: TYPE", Promise04BodyTest::otherType);
        Sheet.test("Promise 4: the body against a result by a COUNT parameter", Promise04BodyTest::byParameter);
        Sheet.test("Promise 4: the body is LOOKED AT before it is held against the result",
            Promise04BodyTest::order);
        Sheet.finish();
    }

    /** The body is the first parameter, node 1. */
    private static void body(int first, int v, int result, int error) {
        Maker m = new Maker();
        m.number(77);
        int n = m.parameter(0);
        m.function(0, first, 400, result, n);
        m.answers(first + " " + v + " as a result " + result, v, 0, error, n, 1);
    }

    private static void sameType() {
        for (int type = -31; type <= 31; type++) {
            body(type, 0, type, 0);
        }
    }

    private static void inRange() {
        for (int w = 1; w <= 31; w++) {
            body(300, (int) Maker.low(w), w, 0);
            body(300, (int) Maker.high(w), w, 0);
            body(300, 0, -w, 0);
            body(300, (int) Maker.high(-w), -w, 0);
        }
    }

    private static void outOfRange() {
        for (int w = 1; w <= 31; w++) {
            body(300, (int) Maker.low(w) - 1, w, RANGE);
            body(300, (int) Maker.high(w) + 1, w, RANGE);
            body(300, -1, -w, RANGE);
            if (w < 31) {
                body(300, (int) Maker.high(-w) + 1, -w, RANGE);
            }
        }
        Maker m = new Maker();
        int n = m.greatest();
        m.function(0, 400, 400, -31, n);
        m.fails("2^31", 0, 0, RANGE, 0, n);
    }

    private static void countForTruth() {
        for (int v = -1; v <= 2; v++) {
            body(300, v, 0, TYPE);
        }
    }

    private static void otherType() {
        for (int type : new int[] {2, 8, 31, -2, -8, -31}) {
            body(type, 0, -type, TYPE);
            body(type, 0, type > 0 ? type - 1 : type + 1, TYPE);
            body(type, 0, 0, TYPE);
            body(0, 0, type, TYPE);
        }
        Maker m = new Maker();
        int n = m.cast(m.number(1), 8);
        m.function(0, 400, 400, 9, n);
        m.fails("KNOWN, and in the range", 0, 0, TYPE, 0, n);
    }

    private static void byParameter() {
        body(300, 1, 100, RANGE);
        body(300, 2, 100, RANGE);
        body(300, 3, 100, 0);
        body(300, 1, 200, 0);
        body(300, 31, 100, 0);
        body(300, 31, 200, 0);
    }

    private static void order() {
        Maker m = new Maker();
        int broken = m.broken();
        m.function(0, 400, 400, 0, m.pair(Maker.ADD, broken, broken));
        m.fails("a bad node in a body of another type", 0, 0, StagedCompiler.DIVISION, 0, broken);
    }
}
