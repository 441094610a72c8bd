/** Promise 8: typeOf. */
public final class Promise08TypeOfTest {
    public static void main(String[] args) {
        everyType();
        byInstance();
        notLookedAt();
        noSuch();
        forgotten();
        Sheet.finish();
    }

    private static void everyType() {
        for (int type = -31; type <= 31; type++) {
            Maker m = new Maker();
            int p = m.parameter(0);
            int same = m.pair(Maker.SAME, p, p);
            m.function(0, type, 400, 0, same);
            m.compiles("type " + type, 0, 0, 1);
            Sheet.due("parameter of " + type, m.x.typeOf(0, p), type);
            Sheet.due("SAME", m.x.typeOf(0, same), 0);
        }
        Maker m = new Maker();
        int p = m.parameter(0);
        int n = m.number(3);
        int truth = m.pair(Maker.LESS, p, n);
        m.function(0, 300, 400, 0, truth);
        m.compiles("counts", 1, 0, 1);
        Sheet.due("a COUNT parameter", m.x.typeOf(0, p), 300);
        Sheet.due("a NUMBER", m.x.typeOf(0, n), 300);
        Sheet.due("a known TRUTH", m.x.typeOf(0, truth), 0);
    }

    private static void byInstance() {
        Maker m = new Maker();
        int p = m.parameter(0);
        int w = m.parameter(1);
        int cast = m.cast(p, 201);
        m.function(1, 101, 300, 201, cast);
        int call = m.call(1, m.number(0), m.number(9));
        int other = m.call(1, m.number(0), m.number(1));
        m.function(0, 400, 400, -9, m.choose(m.pair(Maker.SAME, other, m.number(0)), call, call));
        m.compiles("widths", 0, 0, 3);
        Sheet.due("in 1: other", m.x.typeOf(1, p), 1);
        Sheet.due("in 1: cast is UNSIGNED 1", m.x.typeOf(1, cast), -1);
        Sheet.due("in 2: parameter", m.x.typeOf(2, p), 9);
        Sheet.due("in 2: cast", m.x.typeOf(2, cast), -9);
        Sheet.due("the width itself was not looked at", m.x.typeOf(2, w), 400);
        Sheet.due("in 0: call", m.x.typeOf(0, call), -9);
        Sheet.due("in 0: other call", m.x.typeOf(0, other), -1);
        Sheet.due("in 0: parameter", m.x.typeOf(0, p), 400);
    }

    private static void notLookedAt() {
        Maker m = new Maker();
        int untaken = m.number(1);
        int taken = m.parameter(0);
        int choice = m.choose(m.no(), untaken, taken);
        int aside = m.number(4);
        m.function(0, -5, 400, -5, choice);
        m.compiles("untaken", 0, 0, 1);
        Sheet.due("untaken", m.x.typeOf(0, untaken), 400);
        Sheet.due("taken", m.x.typeOf(0, taken), -5);
        Sheet.due("choice", m.x.typeOf(0, choice), -5);
        Sheet.due("not in the body", m.x.typeOf(0, aside), 400);
        int later = m.number(4);
        Sheet.due("made later", m.x.typeOf(0, later), 400);
    }

    private static void noSuch() {
        Maker m = new Maker();
        int n = m.number(1);
        Sheet.due("before compile", m.x.typeOf(0, n), -1);
        m.function(0, 400, 400, 8, n);
        m.compiles("one", 0, 0, 1);
        Sheet.due("there", m.x.typeOf(0, 0), 300);
        for (int bad : new int[] {Maker.MIN, -1, 1, 20, 59, 60, Maker.MAX}) {
            Sheet.due("node " + bad, m.x.typeOf(0, bad), -1);
            Sheet.due("instance " + bad, m.x.typeOf(bad, 0), -1);
        }
    }

    /** What an earlier compile found is gone with its instances. */
    private static void forgotten() {
        Maker m = new Maker();
        int n = m.number(1);
        int other = m.number(2);
        m.function(0, 400, 400, 8, n);
        m.function(1, 400, 400, 8, other);
        m.compiles("one", 0, 0, 1);
        Sheet.due("other", m.x.compile(1, 0, 0), 1);
        Sheet.due("not looked at now", m.x.typeOf(0, n), 400);
        Sheet.due("not known now", m.x.known(0, n), StagedCompiler.NONE);
        Sheet.due("looked at now", m.x.typeOf(0, other), 300);
    }
}
