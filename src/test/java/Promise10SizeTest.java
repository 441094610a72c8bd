/** Promise 10: size. */
public final class Promise10SizeTest {
    private static final int REFUSED = StagedCompiler.REFUSED;

    public static void main(String[] args) {
        Sheet.test("Promise 10: kinds 2 .. 15 count", Promise10SizeTest::kindsThatCount);
        Sheet.test("Promise 10: kinds 0, 1 and 16 do not count", Promise10SizeTest::kindsThatDoNot);
        Sheet.test("Promise 10: a node counts once", Promise10SizeTest::once);
        Sheet.test("Promise 10: what was not LOOKED AT does not count", Promise10SizeTest::notLookedAt);
        Sheet.test("Promise 10: what was LOOKED AT but is not run counts", Promise10SizeTest::notRun);
        Sheet.test("Promise 10: KNOWN nodes do not count", Promise10SizeTest::known);
        Sheet.test("Promise 10: in instance i", Promise10SizeTest::byInstance);
        Sheet.test("Promise 10: nodes 0 and 59 count", Promise10SizeTest::firstAndLast);
        Sheet.test("Promise 10: no such instance: REFUSED", Promise10SizeTest::noInstance);
        Sheet.finish();
    }

    private static void sizeIs(String what, Maker m, int instances, int size) {
        m.compiles(what, 0, 0, instances);
        Sheet.due("size with " + what, m.x.size(0), size);
    }

    private static void kindsThatCount() {
        for (int kind = Maker.ADD; kind <= Maker.SAME; kind++) {
            Maker m = new Maker();
            m.function(0, 8, 400, kind >= Maker.LESS ? 0 : 8, m.pair(kind, m.parameter(0), m.number(1)));
            sizeIs("kind " + kind, m, 1, 1);
        }
        Maker m = new Maker();
        m.function(0, 0, 8, 8, m.choose(m.parameter(0), m.parameter(1), m.number(1)));
        sizeIs("IF", m, 1, 1);
        m = new Maker();
        m.function(0, 0, 8, 8, m.choose(m.yes(), m.parameter(1), m.number(1)));
        sizeIs("IF whose a is KNOWN", m, 1, 1);
        m = new Maker();
        m.function(0, 8, 400, 9, m.cast(m.parameter(0), 9));
        sizeIs("CAST", m, 1, 1);
        m = new Maker();
        m.function(0, 8, 400, 8, m.call(0, m.number(1), -1));
        sizeIs("CALL", m, 1, 1);
    }

    private static void kindsThatDoNot() {
        Maker m = new Maker();
        m.function(0, 400, 400, 8, m.number(1));
        sizeIs("NUMBER", m, 1, 0);
        m = new Maker();
        m.function(0, 8, 400, 8, m.parameter(0));
        sizeIs("PARAMETER", m, 1, 0);
        m = new Maker();
        m.function(0, 300, 400, 8, m.parameter(0));
        sizeIs("a COUNT PARAMETER", m, 1, 0);
        m = new Maker();
        m.function(0, 8, 400, 8, m.width(m.parameter(0)));
        sizeIs("WIDTH", m, 1, 0);
    }

    private static void once() {
        Maker m = new Maker();
        int n = m.pair(Maker.WRAPADD, m.parameter(0), m.parameter(0));
        for (int i = 0; i < 4; i++) {
            n = m.pair(Maker.WRAPMUL, n, n);
        }
        m.function(0, 8, 400, 8, n);
        sizeIs("shared nodes", m, 1, 5);
    }

    private static void notLookedAt() {
        Maker m = new Maker();
        int p = m.parameter(0);
        int one = m.pair(Maker.ADD, p, m.number(1));
        int two = m.pair(Maker.SUB, m.pair(Maker.ADD, p, m.number(2)), m.number(3));
        m.function(0, 8, 300, 8, m.choose(m.pair(Maker.LESS, m.parameter(1), m.number(0)), one, two));
        m.compiles("b is taken", 0, -1, 1);
        Sheet.due("b and the IF", m.x.size(0), 2);
        m.compiles("c is taken", 0, 0, 1);
        Sheet.due("c, what is in it, and the IF", m.x.size(0), 3);
        m.pair(Maker.ADD, p, p);
        Sheet.due("a node made later", m.x.size(0), 3);
    }

    private static void notRun() {
        Maker m = new Maker();
        m.function(0, 8, 400, 8, m.width(m.cast(m.parameter(0), 9)));
        sizeIs("a CAST under a WIDTH", m, 1, 1);
    }

    private static void known() {
        Maker m = new Maker();
        int sum = m.pair(Maker.ADD, m.number(1), m.number(2));
        int truth = m.pair(Maker.SAME, sum, m.number(3));
        int cast = m.cast(sum, 8);
        m.function(0, 400, 400, 8, m.choose(truth, cast, sum));
        sizeIs("KNOWN nodes alone", m, 1, 0);
        m = new Maker();
        sum = m.pair(Maker.ADD, m.number(1), m.number(2));
        m.function(0, 8, 400, 8, m.pair(Maker.ADD, m.parameter(0), sum));
        sizeIs("a KNOWN operand", m, 1, 1);
    }

    private static void byInstance() {
        Maker m = new Maker();
        int p = m.parameter(0);
        int sum = m.pair(Maker.ADD, p, m.number(1));
        int body = m.pair(Maker.ADD, m.call(1, m.number(3), -1), m.call(2, m.number(4), -1));
        m.function(0, 400, 400, 8, body);
        m.function(1, 300, 400, 8, sum);
        m.function(2, 8, 400, 8, sum);
        sizeIs("the caller", m, 3, 3);
        Sheet.due("a COUNT and a NUMBER", m.x.size(1), 0);
        Sheet.due("an argument and a NUMBER", m.x.size(2), 1);
    }

    private static void firstAndLast() {
        Maker m = new Maker();
        int first = m.call(1, -1, -1);
        for (int n = 1; n < 59; n++) {
            m.number(n);
        }
        int last = m.pair(Maker.ADD, first, first);
        Sheet.due("the last of 60", last, 59);
        m.function(0, 400, 400, 8, last);
        m.function(1, 400, 400, 8, 7);
        sizeIs("the CALL and the ADD", m, 2, 2);
        Sheet.due("the other", m.x.size(1), 0);
    }

    private static void noInstance() {
        Maker m = new Maker();
        m.function(0, 400, 400, 8, m.number(1));
        m.function(1, 400, 400, 0, 0);
        Sheet.due("before compile", m.x.size(0), REFUSED);
        m.compiles("one", 0, 0, 1);
        Sheet.due("there", m.x.size(0), 0);
        for (int bad : new int[] {Maker.MIN, -1, 1, 19, 20, Maker.MAX}) {
            Sheet.due("instance " + bad, m.x.size(bad), REFUSED);
        }
        Sheet.due("an error", m.x.compile(1, 0, 0), StagedCompiler.TYPE);
        Sheet.due("after it", m.x.size(0), REFUSED);
    }
}
