/** Promise 9: known. */
public final class Promise09KnownTest {
    private static final long NONE = StagedCompiler.NONE;

    public static void main(String[] args) {
        values();
        notKnown();
        throughIf();
        noSuch();
        Sheet.finish();
    }

    private static void values() {
        Maker m = new Maker();
        int low = m.number(Maker.MIN);
        int great = m.greatest();
        int yes = m.pair(Maker.LESS, low, great);
        int no = m.pair(Maker.SAME, low, great);
        int width = m.width(m.cast(m.parameter(0), -7));
        int cast = m.cast(width, 100);
        int isWidth = m.pair(Maker.SAME, cast, m.number(7));
        m.function(0, 300, 400, 0, m.pair(Maker.SAME, m.pair(Maker.SAME, yes, no), isWidth));
        m.compiles("all known", 5, 0, 1);
        Sheet.due("-2^31", m.x.known(0, low), Maker.MIN);
        Sheet.due("2^31", m.x.known(0, great), Maker.TWO_31);
        Sheet.due("true", m.x.known(0, yes), 1);
        Sheet.due("false", m.x.known(0, no), 0);
        Sheet.due("WIDTH", m.x.known(0, width), 7);
        Sheet.due("CAST", m.x.known(0, cast), 7);
        Sheet.due("SAME in SIGNED 5", m.x.known(0, isWidth), 1);
        Sheet.due("the body", m.x.known(0, m.x.count(0) - 1), 0);
        Sheet.due("size", m.x.size(0), 0);
    }

    private static void notKnown() {
        Maker m = new Maker();
        int p = m.parameter(0);
        int zero = m.number(0);
        int product = m.pair(Maker.MUL, p, zero);
        int same = m.pair(Maker.SAME, p, p);
        int call = m.call(1, -1, -1);
        int width = m.width(p);
        int choice = m.choose(same, product, m.cast(width, 8));
        m.function(0, 8, 400, 8, m.pair(Maker.ADD, choice, call));
        m.function(1, 400, 400, 8, zero);
        m.compiles("not known", 0, 0, 2);
        Sheet.due("a parameter", m.x.known(0, p), NONE);
        Sheet.due("times 0", m.x.known(0, product), NONE);
        Sheet.due("same as itself", m.x.known(0, same), NONE);
        Sheet.due("an IF of what is not known", m.x.known(0, choice), NONE);
        Sheet.due("a CALL of what is known", m.x.known(0, call), NONE);
        Sheet.due("known within it", m.x.known(1, zero), 0);
        Sheet.due("the WIDTH of what is not known", m.x.known(0, width), 8);
    }

    private static void throughIf() {
        Maker m = new Maker();
        int p = m.parameter(0);
        int n = m.choose(m.yes(), p, m.number(1));
        int deep = m.choose(m.choose(m.yes(), m.no(), m.yes()), m.number(3), m.number(4));
        m.function(0, 8, 400, 8, m.pair(Maker.ADD, n, deep));
        m.compiles("through IF", 0, 0, 1);
        Sheet.due("taken is not known", m.x.known(0, n), NONE);
        Sheet.due("taken is known", m.x.known(0, deep), 4);
        Sheet.due("its type", m.x.typeOf(0, deep), 300);
    }

    private static void noSuch() {
        Maker m = new Maker();
        int n = m.number(1);
        int aside = m.number(2);
        Sheet.due("before compile", m.x.known(0, n), NONE);
        m.function(0, 400, 400, 8, n);
        m.compiles("one", 0, 0, 1);
        Sheet.due("there", m.x.known(0, n), 1);
        Sheet.due("not looked at", m.x.known(0, aside), NONE);
        for (int bad : new int[] {Maker.MIN, -1, 2, 20, 59, 60, Maker.MAX}) {
            Sheet.due("node " + bad, m.x.known(0, bad), NONE);
            Sheet.due("instance " + bad, m.x.known(bad, 0), NONE);
        }
    }
}
