/** Promise 7: countOf. */
public final class Promise07CountOfTest {
    private static final long NONE = StagedCompiler.NONE;

    public static void main(String[] args) {
        values();
        whichParameters();
        noSuch();
        Sheet.finish();
    }

    private static void values() {
        for (int v : new int[] {Maker.MIN, -1, 0, 1, 31, Maker.MAX}) {
            Maker m = new Maker();
            m.function(0, 300, 300, 8, m.number(1));
            m.compiles("values", v, ~v, 1);
            Sheet.due("first", m.x.countOf(0, 0), v);
            Sheet.due("second", m.x.countOf(0, 1), ~v);
        }
        Maker m = new Maker();
        m.function(0, 400, 400, 8, m.call(1, m.number(3), m.greatest()));
        m.function(1, 300, 300, 8, m.number(1));
        m.compiles("greatest", 0, 0, 2);
        Sheet.due("2^31", m.x.countOf(1, 1), Maker.TWO_31);
        Sheet.due("the caller has none", m.x.countOf(0, 1), NONE);
    }

    private static void whichParameters() {
        for (int code : new int[] {8, -8, 0, 400, 101}) {
            Maker m = new Maker();
            m.function(0, code, 300, 8, m.number(1));
            m.compiles("second alone", 6, 7, 1);
            Sheet.due("first is " + code, m.x.countOf(0, 0), NONE);
            Sheet.due("second", m.x.countOf(0, 1), 7);
        }
        Maker m = new Maker();
        m.function(0, 300, 200, 8, m.number(1));
        m.compiles("first alone", 6, 7, 1);
        Sheet.due("first", m.x.countOf(0, 0), 6);
        Sheet.due("second is an INT", m.x.countOf(0, 1), NONE);
    }

    private static void noSuch() {
        Maker m = new Maker();
        m.function(0, 300, 300, 8, m.number(1));
        Sheet.due("before compile", m.x.countOf(0, 0), NONE);
        m.compiles("one", 1, 2, 1);
        for (int bad : new int[] {Maker.MIN, -1, 2, 3, 60, Maker.MAX}) {
            Sheet.due("parameter " + bad, m.x.countOf(0, bad), NONE);
            Sheet.due("instance " + bad, m.x.countOf(bad, 0), NONE);
        }
        Sheet.due("instance 1", m.x.countOf(1, 0), NONE);
    }
}
