/** Promise 4, LOOKING AT kinds 0, 1 and 2 .. 12: what is FITTED together, and the TYPE. */
public final class Promise04PairTest {
    private static final int TYPE = StagedCompiler.TYPE;
    private static final int RANGE = StagedCompiler.RANGE;
    private static final int[] INTS = {1, 2, 8, 31, -1, -2, -8, -31};

    public static void main(String[] args) {
        Sheet.test("Promise 4: a NUMBER is any int", Promise04PairTest::numbers);
        Sheet.test("Promise 4: a parameter with code 400: TYPE", Promise04PairTest::missingParameter);
        Sheet.test("Promise 4: both of the same INT type: fitted", Promise04PairTest::sameType);
        Sheet.test("Promise 4: INT types of two widths: TYPE", Promise04PairTest::otherWidth);
        Sheet.test("Promise 4: SIGNED and UNSIGNED: TYPE", Promise04PairTest::otherSign);
        Sheet.test("Promise 4: an INT type and TRUTH: TYPE", Promise04PairTest::intAndTruth);
        Sheet.test("Promise 4: COUNT and TRUTH: TYPE", Promise04PairTest::countAndTruth);
        Sheet.test("Promise 4: COUNT in an INT type's range counts as of that type", Promise04PairTest::inRange);
        Sheet.test("Promise 4: COUNT out of an INT type's range: RANGE", Promise04PairTest::outOfRange);
        Sheet.test("Promise 4: both TRUTH: TYPE, but for SAME", Promise04PairTest::truths);
        Sheet.test("Promise 4: both COUNT and kind 6 .. 10: TYPE", Promise04PairTest::counts);
        Sheet.test("Promise 4: the TYPE is TRUTH for 11 and 12", Promise04PairTest::comparisons);
        Sheet.test("Promise 4: a is LOOKED AT, then b, then they are FITTED", Promise04PairTest::order);
        Sheet.finish();
    }

    private static void numbers() {
        for (int a : new int[] {Maker.MIN, -1, 0, 1, Maker.MAX}) {
            Maker m = new Maker();
            int n = m.number(a);
            m.looksAt(n);
            m.compiles("NUMBER", 0, 0, 1);
            Sheet.due("known", m.x.known(0, n), a);
            Sheet.due("type", m.x.typeOf(0, n), 300);
        }
    }

    private static void missingParameter() {
        for (int k = 0; k < 2; k++) {
            Maker m = new Maker();
            int there = m.parameter(1 - k);
            int missing = m.parameter(k);
            m.function(0, k == 0 ? 400 : 8, k == 1 ? 400 : 8, 8, m.pair(Maker.ADD, there, missing));
            m.fails("parameter " + k, 5, 5, TYPE, 0, missing);
        }
    }

    /** Compiles a pair of the two parameters, those that are COUNT ones being 3; the error is at the pair. */
    private static void pair(int kind, int first, int second, int error) {
        Maker m = new Maker();
        int n = m.pair(kind, m.parameter(0), m.parameter(1));
        m.function(0, first, second, 0, m.pair(Maker.SAME, n, n));
        m.answers("kind " + kind + " of " + first + " and " + second, 3, 3, error, n, 1);
        if (error == 0) {
            int fitted = first == 300 ? second : first;
            Sheet.due("type of kind " + kind, m.x.typeOf(0, n), kind >= Maker.LESS ? 0 : fitted);
        }
    }

    private static void sameType() {
        for (int kind = 2; kind <= 12; kind++) {
            for (int type : INTS) {
                pair(kind, type, type, 0);
            }
        }
    }

    private static void otherWidth() {
        for (int kind = 2; kind <= 12; kind++) {
            pair(kind, 8, 9, TYPE);
            pair(kind, 9, 8, TYPE);
            pair(kind, 30, 31, TYPE);
            pair(kind, -8, -9, TYPE);
            pair(kind, -1, -2, TYPE);
        }
    }

    private static void otherSign() {
        for (int kind = 2; kind <= 12; kind++) {
            for (int type : INTS) {
                pair(kind, type, -type, TYPE);
            }
        }
    }

    private static void intAndTruth() {
        for (int kind = 2; kind <= 12; kind++) {
            for (int type : INTS) {
                pair(kind, type, 0, TYPE);
                pair(kind, 0, type, TYPE);
            }
        }
    }

    private static void countAndTruth() {
        for (int kind = 2; kind <= 12; kind++) {
            pair(kind, 300, 0, TYPE);
            pair(kind, 0, 300, TYPE);
        }
        // a COUNT that would be in a TRUTH's range is none either
        for (int value = 0; value < 2; value++) {
            Maker m = new Maker();
            int n = m.pair(Maker.SAME, m.parameter(0), m.number(value));
            m.function(0, 0, 400, 0, n);
            m.fails("TRUTH and " + value, 0, 0, TYPE, 0, n);
        }
    }

    /** Node SAME of a parameter of the type and a COUNT, in either order. */
    private static void withCount(int type, long value, int error) {
        for (int order = 0; order < 2; order++) {
            Maker m = new Maker();
            int p = m.parameter(0);
            int count = value == Maker.TWO_31 ? m.greatest() : m.number((int) value);
            int n = m.pair(Maker.SAME, order == 0 ? p : count, order == 0 ? count : p);
            m.function(0, type, 400, 0, n);
            m.answers(value + " as " + type, 0, 0, error, n, 1);
            if (error == 0) {
                Sheet.due("itself it is a COUNT", m.x.typeOf(0, count), 300);
            }
        }
    }

    private static void inRange() {
        for (int w = 1; w <= 31; w++) {
            withCount(w, Maker.low(w), 0);
            withCount(w, Maker.high(w), 0);
            withCount(-w, 0, 0);
            withCount(-w, Maker.high(-w), 0);
        }
        for (int kind = 2; kind <= 12; kind++) {
            pair(kind, 8, 300, 0);
            pair(kind, 300, 8, 0);
        }
    }

    private static void outOfRange() {
        for (int w = 1; w <= 31; w++) {
            withCount(w, Maker.low(w) - 1, RANGE);
            withCount(w, Maker.high(w) + 1, RANGE);
            withCount(-w, -1, RANGE);
            withCount(-w, Maker.high(-w) + 1, RANGE);
        }
        for (int kind = 2; kind <= 12; kind++) {
            pair(kind, 2, 300, RANGE);
            pair(kind, 300, 2, RANGE);
        }
    }

    private static void truths() {
        for (int kind = 2; kind <= 12; kind++) {
            pair(kind, 0, 0, kind == Maker.SAME ? 0 : TYPE);
            Maker m = new Maker();
            int n = m.pair(kind, m.yes(), m.no());
            m.looksAt(n);
            m.answers("kind " + kind + " of known TRUTHs", 0, 0, kind == Maker.SAME ? 0 : TYPE, n, 1);
        }
    }

    private static void counts() {
        for (int kind = 2; kind <= 12; kind++) {
            pair(kind, 300, 300, kind >= 6 && kind <= 10 ? TYPE : 0);
        }
    }

    private static void comparisons() {
        for (int kind = 2; kind <= 12; kind++) {
            for (int operands = 0; operands < 3; operands++) {
                Maker m = new Maker();
                int a = m.cast(operands == 0 ? m.parameter(0) : m.number(1), 8);
                int n = m.pair(kind, a, operands == 1 ? a : m.number(1));
                m.function(0, 9, 400, 0, m.pair(Maker.SAME, n, n));
                m.compiles("kind " + kind, 0, 0, 1);
                Sheet.due("type of kind " + kind, m.x.typeOf(0, n), kind >= Maker.LESS ? 0 : 8);
            }
        }
    }

    private static void order() {
        for (int kind = 2; kind <= 12; kind++) {
            Maker m = new Maker();
            int missing = m.parameter(0);
            int broken = m.broken();
            m.function(0, 400, 0, 8, m.pair(kind, missing, broken));
            m.fails("a before b", 0, 0, TYPE, 0, missing);
            m.function(1, 400, 0, 8, m.pair(kind, broken, missing));
            Sheet.due("b before a", m.x.compile(1, 0, 0), StagedCompiler.DIVISION);
            Sheet.due("errorAt", m.x.errorAt(), 64 + broken);
            m.function(2, 400, 0, 8, m.pair(kind, m.parameter(1), broken));
            Sheet.due("b before they are FITTED", m.x.compile(2, 0, 0), StagedCompiler.DIVISION);
            Sheet.due("errorAt", m.x.errorAt(), 128 + broken);
        }
    }
}
