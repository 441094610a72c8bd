/** Promise 12: count. */
public final class Promise12CountTest {
    public static void main(String[] args) {
        noSuch();
        nodesAndFunctions();
        instances();
        calls();
        callsThatAreNotMade();
        Sheet.finish();
    }

    private static void noSuch() {
        StagedCompiler x = new StagedCompiler();
        for (int bad : new int[] {Maker.MIN, -1, 4, 5, 100, Maker.MAX}) {
            Sheet.due("count " + bad, x.count(bad), -1);
        }
    }

    private static void nodesAndFunctions() {
        StagedCompiler x = new StagedCompiler();
        for (int n = 0; n < 8; n++) {
            Sheet.due("nodes", x.count(0), n);
            Sheet.due("functions", x.count(1), n);
            x.node(0, n, 0, 0);
            x.node(17, 0, 0, 0);
            x.define(7 - n, 400, 400, 8, n);
            x.define(7 - n, 400, 400, 8, n);
        }
        Sheet.due("nodes", x.count(0), 8);
        Sheet.due("functions", x.count(1), 8);
    }

    private static void instances() {
        Maker m = new Maker();
        m.function(0, 400, 400, 8, m.call(1, -1, -1));
        m.function(1, 400, 400, 8, m.number(1));
        m.function(2, 400, 400, 8, m.number(500));
        m.compiles("two", 0, 0, 2);
        Sheet.due("refused", m.x.compile(3, 0, 0), -1);
        Sheet.due("two stay", m.x.count(2), 2);
        Sheet.due("one", m.x.compile(1, 0, 0), 1);
        Sheet.due("one", m.x.count(2), 1);
        Sheet.due("error", m.x.compile(2, 0, 0), StagedCompiler.RANGE);
        Sheet.due("none", m.x.count(2), 0);
    }

    private static void calls() {
        Maker m = new Maker();
        int p = m.parameter(0);
        int call = m.call(1, p, -1);
        m.function(0, 8, 400, 8, m.pair(Maker.ADD, call, m.pair(Maker.ADD, call, m.call(1, call, -1))));
        m.function(1, 8, 400, 8, m.call(2, p, -1));
        m.function(2, 8, 400, 8, p);
        m.compiles("calls", 0, 0, 3);
        Sheet.due("before a run", m.x.count(3), 0);
        Sheet.due("run", m.x.run(0, 2, 0), 6);
        Sheet.due("each time that it is run", m.x.count(3), 8);
        Sheet.due("run answers NONE", m.x.run(0, 128, 0), StagedCompiler.NONE);
        Sheet.due("run answers NONE", m.x.run(3, 1, 0), StagedCompiler.NONE);
        Sheet.due("it stays", m.x.count(3), 8);
        m.compiles("compiled again", 0, 0, 3);
        Sheet.due("it stays", m.x.count(3), 8);
        Sheet.due("run of 1", m.x.run(1, 2, 0), 2);
        Sheet.due("one", m.x.count(3), 1);
        Sheet.due("run of 2", m.x.run(2, 2, 0), 2);
        Sheet.due("none", m.x.count(3), 0);
    }

    private static void callsThatAreNotMade() {
        Maker m = new Maker();
        int p = m.parameter(0);
        int q = m.parameter(1);
        int quotient = m.pair(Maker.DIV, p, q);
        int inFirst = m.call(2, quotient, p);
        int inSecond = m.call(2, m.call(2, p, p), quotient);
        int inBody = m.call(1, p, q);
        m.function(0, 8, 8, 8, inFirst);
        m.function(1, 8, 8, 8, quotient);
        m.function(2, 8, 8, 8, p);
        m.function(3, 8, 8, 8, inSecond);
        m.function(4, 8, 8, 8, inBody);
        int[][] asked = {{0, 0}, {3, 1}, {4, 1}};
        for (int[] a : asked) {
            Sheet.due("compile " + a[0], m.x.compile(a[0], 0, 0), 2);
            Sheet.due("trap", m.x.run(0, 5, 0), StagedCompiler.BY_ZERO);
            Sheet.due("calls made by function " + a[0], m.x.count(3), a[1]);
        }
        m = new Maker();
        m.function(0, 400, 400, 8, m.call(0, -1, -1));
        m.compiles("without end", 0, 0, 1);
        Sheet.due("trap", m.x.run(0, 0, 0), StagedCompiler.DEPTH);
        Sheet.due("the sixth is not made", m.x.count(3), 5);
    }
}
