/** Promise 4, LOOKING AT kind 13, IF. */
public final class Promise04IfTest {
    private static final int TYPE = StagedCompiler.TYPE;
    private static final int RANGE = StagedCompiler.RANGE;

    public static void main(String[] args) {
        Sheet.test("Promise 4: IF of what is not TRUTH: TYPE", Promise04IfTest::notTruth);
        Sheet.test("Promise 4: IF whose a is KNOWN true: only b is LOOKED AT", Promise04IfTest::knownTrue);
        Sheet.test("Promise 4: IF whose a is KNOWN false: only c is LOOKED AT", Promise04IfTest::knownFalse);
        Sheet.test("Promise 4: IF whose a is KNOWN: all is as found for the branch", Promise04IfTest::asFound);
        Sheet.test("Promise 4: IF of two COUNTs: TYPE", Promise04IfTest::twoCounts);
        Sheet.test("Promise 4: IF of an INT type and COUNT: in the range, else RANGE", Promise04IfTest::withCount);
        Sheet.test("Promise 4: IF of two types: TYPE", Promise04IfTest::twoTypes);
        Sheet.test("Promise 4: IF of KNOWN branches is not KNOWN", Promise04IfTest::notKnown);
        Sheet.test("Promise 4: IF: a, then b, then c, then they are FITTED", Promise04IfTest::order);
        Sheet.finish();
    }

    private static void notTruth() {
        for (int code : new int[] {300, 1, 8, -1, -31}) {
            for (int value = 0; value < 2; value++) {
                Maker m = new Maker();
                int broken = m.broken();
                int n = m.choose(m.parameter(0), broken, broken);
                // not the body, so that no error of the body against the result can stand in
                m.function(0, code, 400, 0, m.pair(Maker.SAME, n, n));
                m.fails("IF of " + code, value, 0, TYPE, 0, n);
            }
        }
        Maker m = new Maker();
        int n = m.choose(m.cast(m.number(1), -1), m.number(1), m.number(2));
        m.looksAt(n);
        m.fails("IF of a KNOWN UNSIGNED 1", 0, 0, TYPE, 0, n);
    }

    private static void knownTrue() {
        Maker m = new Maker();
        int five = m.number(5);
        int broken = m.broken();
        int n = m.choose(m.yes(), five, broken);
        m.function(0, 400, 400, 8, n);
        m.compiles("b is good", 0, 0, 1);
        Sheet.due("b", m.x.typeOf(0, five), 300);
        Sheet.due("c", m.x.typeOf(0, broken), 400);
        Sheet.due("known as b", m.x.known(0, n), 5);
        m.function(1, 400, 400, 8, m.choose(m.yes(), broken, five));
        Sheet.due("b is bad", m.x.compile(1, 0, 0), StagedCompiler.DIVISION);
        Sheet.due("errorAt", m.x.errorAt(), 64 + broken);
    }

    private static void knownFalse() {
        Maker m = new Maker();
        int five = m.number(5);
        int broken = m.broken();
        int n = m.choose(m.no(), broken, five);
        m.function(0, 400, 400, 8, n);
        m.compiles("c is good", 0, 0, 1);
        Sheet.due("b", m.x.typeOf(0, broken), 400);
        Sheet.due("c", m.x.typeOf(0, five), 300);
        Sheet.due("known as c", m.x.known(0, n), 5);
        m.function(1, 400, 400, 8, m.choose(m.no(), five, broken));
        Sheet.due("c is bad", m.x.compile(1, 0, 0), StagedCompiler.DIVISION);
        Sheet.due("errorAt", m.x.errorAt(), 64 + broken);
    }

    private static void asFound() {
        for (int type : new int[] {8, -1, 0}) {
            Maker m = new Maker();
            int n = m.choose(m.yes(), m.parameter(0), m.broken());
            m.function(0, type, 400, type, n);
            m.compiles("not KNOWN", 0, 0, 1);
            Sheet.due("type", m.x.typeOf(0, n), type);
            Sheet.due("known", m.x.known(0, n), StagedCompiler.NONE);
        }
        Maker m = new Maker();
        int n = m.choose(m.no(), m.broken(), m.cast(m.number(9), -5));
        m.function(0, 400, 400, -5, n);
        m.compiles("KNOWN of an INT type", 0, 0, 1);
        Sheet.due("type", m.x.typeOf(0, n), -5);
        Sheet.due("known", m.x.known(0, n), 9);
        m = new Maker();
        int two = m.choose(m.yes(), m.number(2), m.broken());
        m.function(0, 8, 400, 8, m.pair(Maker.ADD, m.parameter(0), two));
        m.compiles("a COUNT still, that is fitted", 0, 0, 1);
        Sheet.due("type", m.x.typeOf(0, two), 300);
    }

    /** Function 0 is an IF of its first parameter, a TRUTH. */
    private static void branches(Maker m, int second, int b, int c, int error) {
        int n = m.choose(m.parameter(0), b, c);
        m.function(0, 0, second, 0, m.pair(Maker.SAME, n, n));
        m.answers("IF", 0, 0, error, n, 1);
        if (error == 0) {
            Sheet.due("type", m.x.typeOf(0, n), second);
        }
    }

    private static void twoCounts() {
        Maker m = new Maker();
        branches(m, 400, m.number(1), m.number(2), TYPE);
        m = new Maker();
        int one = m.number(1);
        branches(m, 400, one, one, TYPE);
    }

    private static void withCount() {
        for (int type : new int[] {1, 8, 31, -1, -8, -31}) {
            long[] values = {Maker.low(type), Maker.high(type), Maker.low(type) - 1, Maker.high(type) + 1};
            for (int i = 0; i < 4; i++) {
                for (int order = 0; order < 2; order++) {
                    Maker m = new Maker();
                    int count = values[i] == Maker.TWO_31 ? m.greatest() : m.number((int) values[i]);
                    int p = m.parameter(1);
                    branches(m, type, order == 0 ? p : count, order == 0 ? count : p, i < 2 ? 0 : RANGE);
                }
            }
        }
    }

    private static void twoTypes() {
        int[][] types = {{8, 9}, {9, 8}, {8, -8}, {-8, 8}};
        for (int[] two : types) {
            Maker m = new Maker();
            branches(m, 400, m.cast(m.number(1), two[0]), m.cast(m.number(1), two[1]), TYPE);
        }
        Maker m = new Maker();
        branches(m, 8, m.parameter(1), m.parameter(0), TYPE);
        m = new Maker();
        branches(m, 8, m.parameter(0), m.parameter(1), TYPE);
        m = new Maker();
        branches(m, 400, m.number(1), m.parameter(0), TYPE);
        m = new Maker();
        branches(m, 400, m.parameter(0), m.number(1), TYPE);
        m = new Maker();
        branches(m, 0, m.parameter(1), m.parameter(0), 0);
    }

    private static void notKnown() {
        Maker m = new Maker();
        int yes = m.yes();
        int n = m.choose(m.parameter(0), yes, yes);
        m.function(0, 0, 400, 0, n);
        m.compiles("TRUTHs", 0, 0, 1);
        Sheet.due("known", m.x.known(0, n), StagedCompiler.NONE);
        Sheet.due("type", m.x.typeOf(0, n), 0);
        m = new Maker();
        int four = m.cast(m.number(4), 8);
        n = m.choose(m.parameter(0), four, m.number(4));
        m.function(0, 0, 400, 8, n);
        m.compiles("INTs", 0, 0, 1);
        Sheet.due("known", m.x.known(0, n), StagedCompiler.NONE);
        Sheet.due("type", m.x.typeOf(0, n), 8);
    }

    private static void order() {
        Maker m = new Maker();
        int missing = m.parameter(1);
        int broken = m.broken();
        int undefined = m.call(7, -1, -1);
        m.function(0, 0, 400, 8, m.choose(missing, broken, undefined));
        m.function(1, 0, 400, 8, m.choose(m.parameter(0), broken, undefined));
        m.function(2, 0, 400, 8, m.choose(m.parameter(0), m.yes(), undefined));
        m.function(3, 0, 400, 8, m.choose(broken, missing, undefined));
        int[] errors = {TYPE, StagedCompiler.DIVISION, StagedCompiler.CALL, StagedCompiler.DIVISION};
        int[] places = {missing, broken, undefined, broken};
        for (int f = 0; f < 4; f++) {
            Sheet.due("function " + f, m.x.compile(f, 0, 0), errors[f]);
            Sheet.due("errorAt", m.x.errorAt(), 64 * f + places[f]);
        }
    }
}
