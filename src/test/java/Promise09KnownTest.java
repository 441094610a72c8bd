/** Promise 9: known. */
public final class Promise09KnownTest {
    private static final long NONE = StagedCompiler.NONE;

    public static void main(String[] args) {
        Sheet.test("Promise 9: values from -2^31 to 2^31", Promise09KnownTest::values);
        Sheet.test("Promise 9: a TRUTH is 1 or 0", Promise09KnownTest::truths);
        Sheet.test("Promise 9: KNOWN in instance i", Promise09KnownTest::byInstance);
        Sheet.test("Promise 9: not KNOWN: NONE", Promise09KnownTest::notKnown);
        Sheet.test("Promise 9: not LOOKED AT: NONE", Promise09KnownTest::notLookedAt);
        Sheet.test("Promise 9: an IF whose a is KNOWN is as its branch", Promise09KnownTest::throughIf);
        Sheet.test("Promise 9: no such instance: NONE", Promise09KnownTest::noInstance);
        Sheet.test("Promise 9: no such node: NONE", Promise09KnownTest::noNode);
        Sheet.finish();
    }

    private static void values() {
        Maker m = new Maker();
        int low = m.number(Maker.MIN);
        int great = m.greatest();
        int p = m.parameter(0);
        int width = m.width(m.cast(p, -7));
        int cast = m.cast(width, 100);
        int same = m.pair(Maker.SAME, low, great);
        m.function(0, 300, 400, 0, m.pair(Maker.SAME, same, m.pair(Maker.SAME, cast, m.number(7))));
        m.compiles("all known", 5, 0, 1);
        Sheet.due("-2^31", m.x.known(0, low), -Maker.TWO_31);
        Sheet.due("2^31", m.x.known(0, great), Maker.TWO_31);
        Sheet.due("a COUNT parameter", m.x.known(0, p), 5);
        Sheet.due("WIDTH", m.x.known(0, width), 7);
        Sheet.due("CAST", m.x.known(0, cast), 7);
        Sheet.due("size", m.x.size(0), 0);
    }

    private static void truths() {
        Maker m = new Maker();
        int yes = m.yes();
        int no = m.no();
        int same = m.pair(Maker.SAME, yes, no);
        m.function(0, 400, 400, 0, same);
        m.compiles("truths", 0, 0, 1);
        Sheet.due("true", m.x.known(0, yes), 1);
        Sheet.due("false", m.x.known(0, no), 0);
        Sheet.due("SAME", m.x.known(0, same), 0);
    }

    private static void byInstance() {
        Maker m = new Maker();
        int p = m.parameter(0);
        int sum = m.pair(Maker.ADD, p, m.number(1));
        int body = m.pair(Maker.ADD, m.call(1, sum, -1), m.call(2, m.number(3), -1));
        m.function(0, 300, 400, 8, body);
        m.function(1, 300, 400, 8, sum);
        m.function(2, 8, 400, 8, sum);
        m.compiles("three", 20, 0, 3);
        Sheet.due("in 0", m.x.known(0, sum), 21);
        Sheet.due("in 1", m.x.known(1, sum), 22);
        Sheet.due("in 2", m.x.known(2, sum), NONE);
    }

    private static void notKnown() {
        Maker m = new Maker();
        int p = m.parameter(0);
        int zero = m.number(0);
        int product = m.pair(Maker.MUL, p, zero);
        int same = m.pair(Maker.SAME, p, p);
        int call = m.call(1, -1, -1);
        int cast = m.cast(p, 8);
        int choice = m.choose(same, product, cast);
        m.function(0, 8, 400, 8, m.pair(Maker.ADD, choice, call));
        m.function(1, 400, 400, 8, zero);
        m.compiles("not known", 0, 0, 2);
        Sheet.due("a parameter", m.x.known(0, p), NONE);
        Sheet.due("times 0", m.x.known(0, product), NONE);
        Sheet.due("same as itself", m.x.known(0, same), NONE);
        Sheet.due("a CAST", m.x.known(0, cast), NONE);
        Sheet.due("an IF", m.x.known(0, choice), NONE);
        Sheet.due("a CALL of what is known", m.x.known(0, call), NONE);
    }

    private static void notLookedAt() {
        Maker m = new Maker();
        int five = m.number(5);
        int untaken = m.number(6);
        m.function(0, 400, 400, 8, m.choose(m.yes(), five, untaken));
        m.function(1, 400, 400, 8, untaken);
        m.compiles("untaken", 0, 0, 1);
        Sheet.due("taken", m.x.known(0, five), 5);
        Sheet.due("untaken", m.x.known(0, untaken), NONE);
        int later = m.number(7);
        Sheet.due("made later", m.x.known(0, later), NONE);
        Sheet.due("another compile", m.x.compile(1, 0, 0), 1);
        Sheet.due("what the earlier one knew", m.x.known(0, five), NONE);
    }

    private static void throughIf() {
        Maker m = new Maker();
        int n = m.choose(m.yes(), m.parameter(0), m.number(1));
        int deep = m.choose(m.choose(m.yes(), m.no(), m.yes()), m.number(3), m.number(4));
        m.function(0, 8, 400, 8, m.pair(Maker.ADD, n, deep));
        m.compiles("through IF", 0, 0, 1);
        Sheet.due("taken is not known", m.x.known(0, n), NONE);
        Sheet.due("taken is known", m.x.known(0, deep), 4);
    }

    private static void noInstance() {
        Maker m = new Maker();
        int n = m.number(1);
        m.function(0, 400, 400, 8, n);
        m.function(1, 400, 400, 0, n);
        Sheet.due("before compile", m.x.known(0, n), NONE);
        m.compiles("one", 0, 0, 1);
        Sheet.due("there", m.x.known(0, n), 1);
        for (int bad : new int[] {Maker.MIN, -1, 1, 19, 20, Maker.MAX}) {
            Sheet.due("instance " + bad, m.x.known(bad, n), NONE);
        }
        Sheet.due("an error", m.x.compile(1, 0, 0), StagedCompiler.TYPE);
        Sheet.due("after it", m.x.known(0, n), NONE);
    }

    private static void noNode() {
        Maker m = new Maker();
        m.function(0, 400, 400, 8, m.number(1));
        m.compiles("one", 0, 0, 1);
        for (int bad : new int[] {Maker.MIN, -1, 1, 2, 59, 60, Maker.MAX}) {
            Sheet.due("node " + bad, m.x.known(0, bad), NONE);
        }
    }
}
