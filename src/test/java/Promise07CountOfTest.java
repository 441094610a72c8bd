/** Promise 7: countOf. */
public final class Promise07CountOfTest {
    private static final long NONE = StagedCompiler.NONE;

    public static void main(String[] args) {
        Sheet.test("Promise 7: the value of COUNT parameter k 0 .. 1", Promise07CountOfTest::values);
        Sheet.test("Promise 7: a value of 2^31", Promise07CountOfTest::greatest);
        Sheet.test("Promise 7: no such instance: NONE", Promise07CountOfTest::noInstance);
        Sheet.test("Promise 7: no such parameter: NONE", Promise07CountOfTest::noParameter);
        Sheet.test("Promise 7: it is no COUNT one: NONE", Promise07CountOfTest::noCount);
        Sheet.finish();
    }

    private static void values() {
        for (int v : new int[] {Maker.MIN, -1, 0, 1, 31, Maker.MAX}) {
            Maker m = new Maker();
            m.function(0, 300, 300, 8, m.number(1));
            m.compiles("values", v, ~v, 1);
            Sheet.due("first", m.x.countOf(0, 0), v);
            Sheet.due("second", m.x.countOf(0, 1), ~v);
        }
    }

    private static void greatest() {
        Maker m = new Maker();
        int great = m.greatest();
        m.function(0, 400, 400, 8, m.call(1, great, great));
        m.function(1, 300, 300, 8, m.number(1));
        m.compiles("greatest", 0, 0, 2);
        Sheet.due("first", m.x.countOf(1, 0), Maker.TWO_31);
        Sheet.due("second", m.x.countOf(1, 1), Maker.TWO_31);
    }

    private static void noInstance() {
        Maker m = new Maker();
        m.function(0, 300, 300, 8, m.number(1));
        m.function(1, 300, 300, 8, m.number(500));
        Sheet.due("before compile", m.x.countOf(0, 0), NONE);
        m.compiles("one", 1, 2, 1);
        for (int bad : new int[] {Maker.MIN, -1, 1, 2, 19, 20, Maker.MAX}) {
            Sheet.due("instance " + bad, m.x.countOf(bad, 0), NONE);
        }
        Sheet.due("an error", m.x.compile(1, 1, 2), StagedCompiler.RANGE);
        Sheet.due("after it", m.x.countOf(0, 0), NONE);
    }

    private static void noParameter() {
        Maker m = new Maker();
        m.function(0, 300, 300, 8, m.number(1));
        m.compiles("one", 1, 2, 1);
        for (int bad : Maker.outOf(0, 1)) {
            Sheet.due("parameter " + bad, m.x.countOf(0, bad), NONE);
        }
    }

    private static void noCount() {
        for (int code : new int[] {8, -8, 0, 400, 101, 201}) {
            Maker m = new Maker();
            m.function(0, code, 300, 8, m.number(1));
            m.compiles("second alone", 6, 7, 1);
            Sheet.due("first is " + code, m.x.countOf(0, 0), NONE);
            Sheet.due("second", m.x.countOf(0, 1), 7);
        }
        for (int code : new int[] {8, -8, 0, 400, 100, 200}) {
            Maker m = new Maker();
            m.function(0, 300, code, 8, m.number(1));
            m.compiles("first alone", 6, 7, 1);
            Sheet.due("first", m.x.countOf(0, 0), 6);
            Sheet.due("second is " + code, m.x.countOf(0, 1), NONE);
        }
    }
}
