/** Promise 4, LOOKING AT kinds 14 and 16, CAST and WIDTH. */
public final class Promise04CastTest {
    private static final int TYPE = StagedCompiler.TYPE;
    private static final int RANGE = StagedCompiler.RANGE;
    private static final int WIDTH = StagedCompiler.WIDTH;

    public static void main(String[] args) {
        Sheet.test("Promise 4: CAST of TRUTH: TYPE", Promise04CastTest::ofTruth);
        Sheet.test("Promise 4: CAST by a value that is not 1 .. 31: WIDTH", Promise04CastTest::badWidth);
        Sheet.test("Promise 4: CAST by a parameter that is no COUNT one: WIDTH", Promise04CastTest::byNoCount);
        Sheet.test("Promise 4: CAST of TRUTH: TYPE comes before WIDTH", Promise04CastTest::typeBeforeWidth);
        Sheet.test("Promise 4: CAST of KNOWN: WIDTH comes before RANGE", Promise04CastTest::widthBeforeRange);
        Sheet.test("Promise 4: CAST of KNOWN in the range: KNOWN the same value", Promise04CastTest::inRange);
        Sheet.test("Promise 4: CAST of KNOWN out of the range: RANGE", Promise04CastTest::outOfRange);
        Sheet.test("Promise 4: CAST of what is not KNOWN: any INT type to any", Promise04CastTest::notKnown);
        Sheet.test("Promise 4: CAST: a is LOOKED AT first", Promise04CastTest::order);
        Sheet.test("Promise 4: WIDTH of an INT type: COUNT, KNOWN w", Promise04CastTest::widths);
        Sheet.test("Promise 4: WIDTH of TRUTH: TYPE", Promise04CastTest::widthOfTruth);
        Sheet.test("Promise 4: WIDTH of COUNT: TYPE", Promise04CastTest::widthOfCount);
        Sheet.finish();
    }

    private static void ofTruth() {
        for (int code : new int[] {1, 8, 31, -1, -8, -31}) {
            Maker m = new Maker();
            int n = m.cast(m.parameter(0), code);
            // not the body, so that no error of the body against the result can stand in
            m.function(0, 0, 400, 0, m.pair(Maker.SAME, n, n));
            m.fails("a parameter to " + code, 0, 0, TYPE, 0, n);
            m = new Maker();
            n = m.cast(m.no(), code);
            m.looksAt(n);
            m.fails("a KNOWN one to " + code, 0, 0, TYPE, 0, n);
        }
    }

    private static void by(int code, int value, int error) {
        Maker m = new Maker();
        int n = m.cast(m.number(0), code);
        m.function(0, 300, 300, 0, m.pair(Maker.SAME, n, n));
        boolean first = code == 100 || code == 200;
        m.answers("CAST by " + code + " with " + value, first ? value : 40, first ? 40 : value, error, n, 1);
        if (error == 0) {
            Sheet.due("type", m.x.typeOf(0, n), code < 200 ? value : -value);
        }
    }

    private static void badWidth() {
        for (int code : new int[] {100, 101, 200, 201}) {
            for (int w = 1; w <= 31; w++) {
                by(code, w, 0);
            }
            for (int bad : new int[] {Maker.MIN, -31, -1, 0, 32, 257, 65567, Maker.MAX}) {
                by(code, bad, WIDTH);
            }
        }
    }

    private static void byNoCount() {
        for (int other : new int[] {8, -8, 0, 400, 100}) {
            for (int code : new int[] {101, 201}) {
                Maker m = new Maker();
                int n = m.cast(m.number(0), code);
                m.function(0, 300, other, 8, n);
                m.fails("by " + other, 5, 5, WIDTH, 0, n);
            }
        }
        for (int code : new int[] {100, 200}) {
            Maker m = new Maker();
            int n = m.cast(m.parameter(0), code);
            m.function(0, 8, 300, 8, n);
            m.fails("by a first one", 5, 5, WIDTH, 0, n);
        }
    }

    private static void typeBeforeWidth() {
        Maker m = new Maker();
        int n = m.cast(m.yes(), 100);
        m.function(0, 300, 400, 0, m.pair(Maker.SAME, n, n));
        m.fails("of width 0", 0, 0, TYPE, 0, n);
        m.fails("of width 32", 32, 0, TYPE, 0, n);
    }

    private static void widthBeforeRange() {
        Maker m = new Maker();
        int n = m.cast(m.number(500), 100);
        m.function(0, 300, 400, 31, n);
        m.fails("of width 0", 0, 0, WIDTH, 0, n);
        m.fails("of width 9", 9, 0, RANGE, 0, n);
        m.fails("of width 32", 32, 0, WIDTH, 0, n);
    }

    private static void known(int type, long value, int error) {
        Maker m = new Maker();
        int n = m.cast(value == Maker.TWO_31 ? m.greatest() : m.number((int) value), type);
        m.looksAt(n);
        m.answers(value + " to " + type, 0, 0, error, n, 1);
        if (error == 0) {
            Sheet.due("known", m.x.known(0, n), value);
            Sheet.due("type", m.x.typeOf(0, n), type);
        }
    }

    private static void inRange() {
        for (int w = 1; w <= 31; w++) {
            known(w, Maker.low(w), 0);
            known(w, Maker.high(w), 0);
            known(-w, 0, 0);
            known(-w, Maker.high(-w), 0);
        }
        Maker m = new Maker();
        int n = m.cast(m.cast(m.number(127), 8), -8);
        m.looksAt(n);
        m.compiles("of an INT type", 0, 0, 1);
        Sheet.due("known", m.x.known(0, n), 127);
        Sheet.due("type", m.x.typeOf(0, n), -8);
    }

    private static void outOfRange() {
        for (int w = 1; w <= 31; w++) {
            known(w, Maker.low(w) - 1, RANGE);
            known(w, Maker.high(w) + 1, RANGE);
            known(-w, -1, RANGE);
            known(-w, Maker.high(-w) + 1, RANGE);
        }
        Maker m = new Maker();
        int n = m.cast(m.cast(m.number(-1), 8), -8);
        m.looksAt(n);
        m.fails("of an INT type", 0, 0, RANGE, 0, n);
    }

    private static void notKnown() {
        int[] types = {1, 8, 31, -1, -8, -31};
        for (int from : types) {
            for (int to : types) {
                Maker m = new Maker();
                int n = m.cast(m.parameter(0), to);
                m.function(0, from, 400, to, n);
                m.compiles(from + " to " + to, 0, 0, 1);
                Sheet.due("type", m.x.typeOf(0, n), to);
                Sheet.due("known", m.x.known(0, n), StagedCompiler.NONE);
            }
        }
    }

    private static void order() {
        Maker m = new Maker();
        int broken = m.broken();
        m.function(0, 300, 400, 8, m.cast(broken, 100));
        m.fails("of a bad node to a bad width", 0, 0, StagedCompiler.DIVISION, 0, broken);
    }

    private static void widths() {
        for (int w = 1; w <= 31; w++) {
            for (int type = -w; type <= w; type += 2 * w) {
                Maker m = new Maker();
                int n = m.width(m.parameter(0));
                m.function(0, type, 400, 8, n);
                m.compiles("WIDTH of " + type, 0, 0, 1);
                Sheet.due("known", m.x.known(0, n), w);
                Sheet.due("type", m.x.typeOf(0, n), 300);
            }
        }
    }

    private static void widthOfTruth() {
        Maker m = new Maker();
        int n = m.width(m.parameter(0));
        m.function(0, 0, 400, 0, m.pair(Maker.SAME, n, n));
        m.fails("a parameter", 0, 0, TYPE, 0, n);
        m = new Maker();
        n = m.width(m.yes());
        m.looksAt(n);
        m.fails("a KNOWN one", 0, 0, TYPE, 0, n);
    }

    private static void widthOfCount() {
        Maker m = new Maker();
        int n = m.width(m.parameter(0));
        m.function(0, 300, 400, 0, m.pair(Maker.SAME, n, n));
        m.fails("a parameter", 5, 0, TYPE, 0, n);
        m = new Maker();
        n = m.width(m.number(5));
        m.looksAt(n);
        m.fails("a NUMBER", 0, 0, TYPE, 0, n);
    }
}
