/** Promise 8: typeOf. */
public final class Promise08TypeOfTest {
    private static final int REFUSED = StagedCompiler.REFUSED;

    public static void main(String[] args) {
        Sheet.test("Promise 8: w, -w or 0", Promise08TypeOfTest::everyType);
        Sheet.test("Promise 8: 300", Promise08TypeOfTest::counts);
        Sheet.test("Promise 8: as found in instance i", Promise08TypeOfTest::byInstance);
        Sheet.test("Promise 8: 400 if it was not LOOKED AT there", Promise08TypeOfTest::notLookedAt);
        Sheet.test("Promise 8: 400 for a node made after compile", Promise08TypeOfTest::madeLater);
        Sheet.test("Promise 8: no such instance: REFUSED", Promise08TypeOfTest::noInstance);
        Sheet.test("Promise 8: no such node: REFUSED", Promise08TypeOfTest::noNode);
        Sheet.test("Promise 8: -1 is the code of UNSIGNED 1 too", Promise08TypeOfTest::unsignedOne);
        Sheet.finish();
    }

    private static void everyType() {
        for (int type = -31; type <= 31; type++) {
            Maker m = new Maker();
            int p = m.parameter(0);
            int same = m.pair(Maker.SAME, p, p);
            m.function(0, type, 400, 0, same);
            m.compiles("type " + type, 0, 0, 1);
            Sheet.due("parameter of " + type, m.x.typeOf(0, p), type);
            Sheet.due("SAME", m.x.typeOf(0, same), 0);
        }
    }

    private static void counts() {
        Maker m = new Maker();
        int p = m.parameter(0);
        int n = m.number(3);
        int sum = m.pair(Maker.ADD, p, n);
        int width = m.width(m.cast(n, 5));
        m.function(0, 300, 400, 0, m.pair(Maker.LESS, sum, width));
        m.compiles("counts", 1, 0, 1);
        Sheet.due("a COUNT parameter", m.x.typeOf(0, p), 300);
        Sheet.due("a NUMBER", m.x.typeOf(0, n), 300);
        Sheet.due("their sum", m.x.typeOf(0, sum), 300);
        Sheet.due("a WIDTH", m.x.typeOf(0, width), 300);
    }

    private static void byInstance() {
        Maker m = new Maker();
        int p = m.parameter(0);
        int cast = m.cast(p, 201);
        m.function(1, 101, 300, 201, cast);
        int one = m.call(1, m.number(0), m.number(1));
        int nine = m.call(1, m.number(0), m.number(9));
        m.function(0, 400, 400, -9, m.choose(m.pair(Maker.SAME, one, m.number(0)), nine, nine));
        m.compiles("widths", 0, 0, 3);
        Sheet.due("in 1: parameter", m.x.typeOf(1, p), 1);
        Sheet.due("in 1: CAST", m.x.typeOf(1, cast), -1);
        Sheet.due("in 2: parameter", m.x.typeOf(2, p), 9);
        Sheet.due("in 2: CAST", m.x.typeOf(2, cast), -9);
        Sheet.due("in 0: one CALL", m.x.typeOf(0, one), -1);
        Sheet.due("in 0: the other", m.x.typeOf(0, nine), -9);
        Sheet.due("in 0: the parameter", m.x.typeOf(0, p), 400);
    }

    private static void notLookedAt() {
        Maker m = new Maker();
        int untaken = m.number(1);
        int taken = m.parameter(0);
        int choice = m.choose(m.no(), untaken, taken);
        int aside = m.number(4);
        m.function(0, -5, 400, -5, choice);
        m.function(1, -5, 400, -5, taken);
        m.compiles("untaken", 0, 0, 1);
        Sheet.due("untaken", m.x.typeOf(0, untaken), 400);
        Sheet.due("taken", m.x.typeOf(0, taken), -5);
        Sheet.due("choice", m.x.typeOf(0, choice), -5);
        Sheet.due("not in the body", m.x.typeOf(0, aside), 400);
        Sheet.due("another compile", m.x.compile(1, 0, 0), 1);
        Sheet.due("what the earlier one LOOKED AT", m.x.typeOf(0, choice), 400);
    }

    private static void madeLater() {
        Maker m = new Maker();
        m.function(0, 400, 400, 8, m.number(1));
        m.compiles("one", 0, 0, 1);
        for (int n = 1; n < 60; n++) {
            Sheet.due("no node yet", m.x.typeOf(0, n), REFUSED);
            m.number(n);
            Sheet.due("a new node", m.x.typeOf(0, n), 400);
        }
    }

    private static void noInstance() {
        Maker m = new Maker();
        int n = m.number(1);
        m.function(0, 400, 400, 8, n);
        m.function(1, 400, 400, 0, n);
        Sheet.due("before compile", m.x.typeOf(0, n), REFUSED);
        m.compiles("one", 0, 0, 1);
        Sheet.due("there", m.x.typeOf(0, n), 300);
        for (int bad : new int[] {Maker.MIN, -1, 1, 19, 20, Maker.MAX}) {
            Sheet.due("instance " + bad, m.x.typeOf(bad, n), REFUSED);
        }
        Sheet.due("an error", m.x.compile(1, 0, 0), StagedCompiler.TYPE);
        Sheet.due("after it", m.x.typeOf(0, n), REFUSED);
    }

    private static void noNode() {
        Maker m = new Maker();
        m.function(0, 400, 400, 8, m.number(1));
        m.compiles("one", 0, 0, 1);
        for (int bad : new int[] {Maker.MIN, -1, 1, 2, 59, 60, Maker.MAX}) {
            Sheet.due("node " + bad, m.x.typeOf(0, bad), REFUSED);
        }
        while (m.x.count(0) < 60) {
            m.number(0);
        }
        Sheet.due("the last of 60", m.x.typeOf(0, 59), 400);
        Sheet.due("node 60 of 60", m.x.typeOf(0, 60), REFUSED);
    }

    private static void unsignedOne() {
        Maker m = new Maker();
        int p = m.parameter(0);
        m.function(0, -1, 400, -1, p);
        m.compiles("UNSIGNED 1", 0, 0, 1);
        Sheet.due("its code", m.x.typeOf(0, p), -1);
    }
}
