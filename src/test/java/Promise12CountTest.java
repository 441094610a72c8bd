/** Promise 12: count. */
public final class Promise12CountTest {
    private static final int REFUSED = StagedCompiler.REFUSED;
    private static final long NONE = StagedCompiler.NONE;
    private static final long BY_ZERO = StagedCompiler.BY_ZERO;

    public static void main(String[] args) {
        Sheet.test("Promise 12: what is not 0 .. 3: REFUSED", Promise12CountTest::noSuch);
        Sheet.test("Promise 12: 0: nodes, from 0 to 60", Promise12CountTest::nodes);
        Sheet.test("Promise 12: 1: functions defined, from 0 to 8", Promise12CountTest::functions);
        Sheet.test("Promise 12: 2: instances, from 0 to 20", Promise12CountTest::instances);
        Sheet.test("Promise 12: 3: 0 before a run", Promise12CountTest::beforeRun);
        Sheet.test("Promise 12: 3: calls made by the last run", Promise12CountTest::lastRun);
        Sheet.test("Promise 12: 3: a run that answers NONE is not the last run", Promise12CountTest::noneRun);
        Sheet.test("Promise 12: 3: a run that ends with a TRAP is the last run", Promise12CountTest::trapRun);
        Sheet.test("Promise 12: 3: a call that is the TRAP DEPTH is not made", Promise12CountTest::depth);
        Sheet.test("Promise 12: 3: a call that has a TRAP in its first argument is not made",
            Promise12CountTest::trapInFirst);
        Sheet.test("Promise 12: 3: a call that has a TRAP in its second argument is not made",
            Promise12CountTest::trapInSecond);
        Sheet.test("Promise 12: 3: a call that has a TRAP in its body is made", Promise12CountTest::trapInBody);
        Sheet.test("Promise 12: 3: compile does not change it", Promise12CountTest::compileKeeps);
        Sheet.finish();
    }

    private static void noSuch() {
        StagedCompiler x = new StagedCompiler();
        for (int bad : Maker.outOf(0, 3)) {
            Sheet.due("count " + bad, x.count(bad), REFUSED);
        }
        for (int what = 0; what <= 3; what++) {
            Sheet.due("count " + what, x.count(what), 0);
        }
    }

    private static void nodes() {
        StagedCompiler x = new StagedCompiler();
        for (int n = 0; n < 60; n++) {
            Sheet.due("nodes", x.count(0), n);
            x.node(17, 0, 0, 0);
            Sheet.due("after a REFUSED one", x.count(0), n);
            x.node(0, n, 0, 0);
        }
        Sheet.due("nodes", x.count(0), 60);
        x.node(0, 0, 0, 0);
        Sheet.due("no more", x.count(0), 60);
    }

    private static void functions() {
        StagedCompiler x = new StagedCompiler();
        x.node(0, 1, 0, 0);
        for (int f = 7; f >= 0; f--) {
            Sheet.due("functions", x.count(1), 7 - f);
            x.define(f, 400, 400, 300, 0);
            Sheet.due("after a REFUSED one", x.count(1), 7 - f);
            x.define(f, 400, 400, 8, 0);
            x.define(f, 400, 400, 8, 0);
        }
        Sheet.due("functions", x.count(1), 8);
    }

    private static void instances() {
        Maker m = new Maker();
        int p = m.parameter(0);
        int next = m.call(0, m.pair(Maker.SUB, p, m.number(1)), -1);
        m.function(0, 300, 400, 8, m.choose(m.pair(Maker.LESS, p, m.number(1)), m.number(7), next));
        Sheet.due("before compile", m.x.count(2), 0);
        m.compiles("one", 0, 0, 1);
        m.compiles("twenty", 19, 0, 20);
        Sheet.due("REFUSED", m.x.compile(3, 0, 0), REFUSED);
        Sheet.due("twenty still", m.x.count(2), 20);
        Sheet.due("an error", m.x.compile(0, 20, 0), StagedCompiler.QUOTA);
        Sheet.due("none", m.x.count(2), 0);
    }

    /** Function 0 makes eight calls, function 1 one and function 2 none. */
    private static Maker withCalls() {
        Maker m = new Maker();
        int p = m.parameter(0);
        int call = m.call(1, p, -1);
        m.function(0, 8, 400, 8, m.pair(Maker.ADD, call, m.pair(Maker.ADD, call, m.call(1, call, -1))));
        m.function(1, 8, 400, 8, m.call(2, p, -1));
        m.function(2, 8, 400, 8, p);
        m.compiles("calls", 0, 0, 3);
        return m;
    }

    private static void beforeRun() {
        Maker m = withCalls();
        Sheet.due("after compile", m.x.count(3), 0);
        Sheet.due("a run that answers NONE", m.x.run(0, 128, 0), NONE);
        Sheet.due("after it", m.x.count(3), 0);
    }

    private static void lastRun() {
        Maker m = withCalls();
        Sheet.due("run of 0", m.x.run(0, 2, 0), 6);
        Sheet.due("eight", m.x.count(3), 8);
        Sheet.due("asked again", m.x.count(3), 8);
        Sheet.due("run of 0 again", m.x.run(0, 2, 0), 6);
        Sheet.due("eight", m.x.count(3), 8);
        Sheet.due("run of 1", m.x.run(1, 2, 0), 2);
        Sheet.due("one", m.x.count(3), 1);
        Sheet.due("run of 2", m.x.run(2, 2, 0), 2);
        Sheet.due("none", m.x.count(3), 0);
    }

    private static void noneRun() {
        Maker m = withCalls();
        Sheet.due("run", m.x.run(0, 2, 0), 6);
        Sheet.due("a bad argument", m.x.run(0, 128, 0), NONE);
        Sheet.due("it stays", m.x.count(3), 8);
        Sheet.due("a bad argument of another", m.x.run(2, -129, 0), NONE);
        Sheet.due("it stays", m.x.count(3), 8);
        Sheet.due("no such instance", m.x.run(3, 2, 0), NONE);
        Sheet.due("it stays", m.x.count(3), 8);
    }

    private static void trapRun() {
        Maker m = withCalls();
        Sheet.due("run", m.x.run(0, 2, 0), 6);
        Sheet.due("too great a sum", m.x.run(0, 127, 0), StagedCompiler.OVERFLOW);
        Sheet.due("all were made before it", m.x.count(3), 8);
        m.function(3, 8, 400, 8, m.pair(Maker.DIV, m.parameter(0), m.number(0)));
        Sheet.due("another", m.x.compile(3, 0, 0), 1);
        Sheet.due("a TRAP at once", m.x.run(0, 1, 0), BY_ZERO);
        Sheet.due("none", m.x.count(3), 0);
    }

    private static void depth() {
        Maker m = new Maker();
        int p = m.parameter(0);
        int next = m.call(0, m.pair(Maker.SUB, p, m.number(1)), -1);
        m.function(0, 8, 400, 8, m.choose(m.pair(Maker.LESS, p, m.number(1)), m.number(7), next));
        m.compiles("recursion", 0, 0, 1);
        for (int n = 0; n < 9; n++) {
            Sheet.due("run", m.x.run(0, n, 0), n <= 5 ? 7 : StagedCompiler.DEPTH);
            Sheet.due(n + " calls deep", m.x.count(3), Math.min(5, n));
        }
    }

    /** Function 0 is the body given; function 1 answers its first argument, function 2 traps. */
    private static void trap(Maker m, int body, int instances, int made) {
        m.function(0, 8, 8, 8, body);
        m.function(1, 8, 8, 8, m.parameter(0));
        m.function(2, 8, 8, 8, m.pair(Maker.DIV, m.parameter(0), m.number(0)));
        m.compiles("trap", 0, 0, instances);
        Sheet.due("run", m.x.run(0, 5, 0), BY_ZERO);
        Sheet.due("made", m.x.count(3), made);
    }

    private static void trapInFirst() {
        Maker m = new Maker();
        int bad = m.pair(Maker.DIV, m.parameter(0), m.number(0));
        trap(m, m.call(1, bad, m.number(1)), 2, 0);
        m = new Maker();
        bad = m.pair(Maker.DIV, m.parameter(0), m.number(0));
        int good = m.call(1, m.number(1), m.number(1));
        trap(m, m.call(1, bad, good), 2, 0);
        m = new Maker();
        // the inner call is made, its body traps, and so the outer one is not made
        trap(m, m.call(1, m.call(2, m.number(1), m.number(1)), m.number(1)), 3, 1);
    }

    private static void trapInSecond() {
        Maker m = new Maker();
        int bad = m.pair(Maker.DIV, m.parameter(0), m.number(0));
        trap(m, m.call(1, m.number(1), bad), 2, 0);
        m = new Maker();
        bad = m.pair(Maker.DIV, m.parameter(0), m.number(0));
        int good = m.call(1, m.number(1), m.number(1));
        trap(m, m.call(1, good, bad), 2, 1);
        m = new Maker();
        trap(m, m.call(1, m.number(1), m.call(2, m.number(1), m.number(1))), 3, 1);
    }

    private static void trapInBody() {
        Maker m = new Maker();
        trap(m, m.call(2, m.number(1), m.number(1)), 2, 1);
        m = new Maker();
        int good = m.call(1, m.number(1), m.number(1));
        trap(m, m.call(2, good, good), 3, 3);
    }

    private static void compileKeeps() {
        Maker m = withCalls();
        Sheet.due("run", m.x.run(0, 2, 0), 6);
        m.compiles("again", 0, 0, 3);
        Sheet.due("eight", m.x.count(3), 8);
        m.function(3, 8, 400, 0, 0);
        Sheet.due("an error", m.x.compile(3, 0, 0), StagedCompiler.TYPE);
        Sheet.due("eight", m.x.count(3), 8);
        Sheet.due("REFUSED", m.x.compile(4, 0, 0), REFUSED);
        Sheet.due("eight", m.x.count(3), 8);
    }
}
