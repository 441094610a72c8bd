/** Promise 4: compile: what its own words say; the other Promise04 tests ask for the terms it uses. */
public final class Promise04CompileTest {
    private static final int REFUSED = StagedCompiler.REFUSED;

    public static void main(String[] args) {
        Sheet.test("Promise 4: it answers how many instances there are", Promise04CompileTest::howMany);
        Sheet.test("Promise 4: all instances go", Promise04CompileTest::instancesGo);
        Sheet.test("Promise 4: f out of 0 .. 7: REFUSED, and the instances stay",
            Promise04CompileTest::outOfRange);
        Sheet.test("Promise 4: f not defined: REFUSED, and the instances stay",
            Promise04CompileTest::notDefined);
        Sheet.test("Promise 4: an error: it is answered, and there are no instances",
            Promise04CompileTest::errors);
        Sheet.test("Promise 4: v and w are values of COUNT parameters alone", Promise04CompileTest::values);
        Sheet.test("Promise 4: compiled in the order in which they came to be",
            Promise04CompileTest::inOrder);
        Sheet.test("Promise 4: those too that come to be meanwhile", Promise04CompileTest::meanwhile);
        Sheet.test("Promise 4: the first error ends all", Promise04CompileTest::firstError);
        Sheet.test("Promise 4: a node is LOOKED AT once for each instance", Promise04CompileTest::once);
        Sheet.finish();
    }

    private static void howMany() {
        Maker m = new Maker();
        int p = m.parameter(0);
        int next = m.call(0, m.pair(Maker.SUB, p, m.number(1)), -1);
        m.function(0, 300, 400, 8, m.choose(m.pair(Maker.LESS, p, m.number(1)), m.number(7), next));
        for (int v = 0; v < 20; v++) {
            m.compiles("down from " + v, v, 0, v + 1);
        }
        m.compiles("below 0", Maker.MIN, 0, 1);
    }

    private static void instancesGo() {
        Maker m = new Maker();
        int n = m.number(1);
        int other = m.number(2);
        m.function(0, 400, 400, 8, m.call(1, -1, -1));
        m.function(1, 400, 400, 8, n);
        m.function(2, 400, 400, 8, other);
        m.compiles("two", 0, 0, 2);
        Sheet.due("one", m.x.compile(2, 0, 0), 1);
        Sheet.due("instance 0 is a new one", m.x.functionOf(0), 2);
        Sheet.due("it looked at its own nodes", m.x.typeOf(0, other), 300);
        Sheet.due("not at those of the other", m.x.typeOf(0, n), 400);
        Sheet.due("nor knows them", m.x.known(0, n), StagedCompiler.NONE);
        Sheet.due("there is no instance 1", m.x.functionOf(1), REFUSED);
        m.compiles("two again", 0, 0, 2);
    }

    private static Maker withInstance() {
        Maker m = new Maker();
        m.function(0, 400, 400, 8, m.number(5));
        m.compiles("good", 0, 0, 1);
        return m;
    }

    private static void refusedKeepsInstances(int f) {
        Maker m = withInstance();
        Sheet.due("compile " + f, m.x.compile(f, 0, 0), REFUSED);
        Sheet.due("instances", m.x.count(2), 1);
        Sheet.due("functionOf", m.x.functionOf(0), 0);
        Sheet.due("known", m.x.known(0, 0), 5);
        Sheet.due("run", m.x.run(0, 0, 0), 5);
    }

    private static void outOfRange() {
        for (int f : Maker.outOf(0, 7)) {
            refusedKeepsInstances(f);
        }
    }

    private static void notDefined() {
        for (int f = 1; f < 8; f++) {
            refusedKeepsInstances(f);
        }
    }

    /** Function 1 is the one with the error; function 0 had compiled before. */
    private static void errorOf(String what, int error, Maker m) {
        Sheet.due("good", m.x.compile(0, 0, 0), 1);
        Sheet.due(what, m.x.compile(1, 0, 0), error);
        Sheet.due(what + ": instances", m.x.count(2), 0);
        Sheet.due(what + ": functionOf", m.x.functionOf(0), REFUSED);
        Sheet.due(what + ": typeOf", m.x.typeOf(0, 0), REFUSED);
        Sheet.due(what + ": known", m.x.known(0, 0), StagedCompiler.NONE);
        Sheet.due(what + ": size", m.x.size(0), REFUSED);
        Sheet.due(what + ": run", m.x.run(0, 0, 0), StagedCompiler.NONE);
        Sheet.due("good again", m.x.compile(0, 0, 0), 1);
        Sheet.due("run", m.x.run(0, 0, 0), 5);
    }

    private static void errors() {
        Maker m = withInstance();
        m.function(1, 400, 400, 8, m.yes());
        errorOf("TYPE", StagedCompiler.TYPE, m);
        m = withInstance();
        m.function(1, 400, 400, 8, m.number(128));
        errorOf("RANGE", StagedCompiler.RANGE, m);
        m = withInstance();
        m.function(1, 300, 400, 100, m.number(0));
        errorOf("WIDTH", StagedCompiler.WIDTH, m);
        m = withInstance();
        m.function(1, 400, 400, 8, m.broken());
        errorOf("DIVISION", StagedCompiler.DIVISION, m);
        m = withInstance();
        m.function(1, 400, 400, 8, m.call(2, -1, -1));
        errorOf("CALL", StagedCompiler.CALL, m);
        m = withInstance();
        m.function(1, 300, 400, 8, m.call(1, m.pair(Maker.ADD, m.parameter(0), m.number(1)), -1));
        errorOf("QUOTA", StagedCompiler.QUOTA, m);
        m = withInstance();
        m.function(2, 400, 400, 8, m.broken());
        m.function(1, 400, 400, 8, m.call(2, -1, -1));
        errorOf("an error of the second instance", StagedCompiler.DIVISION, m);
    }

    private static void values() {
        int[] codes = {8, -8, 0, 400, 300};
        for (int first : codes) {
            for (int second : codes) {
                Maker m = new Maker();
                m.function(0, first, second, 8, m.number(1));
                m.compiles("codes " + first + " " + second, Maker.MIN, Maker.MAX, 1);
                Sheet.due("first", m.x.countOf(0, 0), first == 300 ? Maker.MIN : StagedCompiler.NONE);
                Sheet.due("second", m.x.countOf(0, 1), second == 300 ? Maker.MAX : StagedCompiler.NONE);
            }
        }
    }

    private static void inOrder() {
        Maker m = new Maker();
        int two = m.call(2, -1, -1);
        int one = m.call(1, m.number(3), -1);
        int three = m.call(3, -1, -1);
        m.function(0, 400, 400, 8, m.pair(Maker.ADD, two, m.pair(Maker.ADD, one, three)));
        m.function(2, 400, 400, 8, m.call(1, m.number(4), -1));
        m.function(1, 300, 400, 8, m.call(3, -1, -1));
        m.function(3, 400, 400, 8, m.number(1));
        m.compiles("numbers", 0, 0, 5);
        int[] functions = {0, 2, 1, 3, 1};
        for (int i = 0; i < 5; i++) {
            Sheet.due("function of " + i, m.x.functionOf(i), functions[i]);
        }
        Sheet.due("count of 2", m.x.countOf(2, 0), 3);
        Sheet.due("count of 4", m.x.countOf(4, 0), 4);

        m = new Maker();
        int early = m.number(500);
        m.function(0, 400, 400, 8, m.pair(Maker.ADD, m.call(1, -1, -1), m.call(2, -1, -1)));
        m.function(1, 400, 400, 8, early);
        m.function(2, 400, 400, 8, m.broken());
        m.fails("the earlier instance's error", 0, 0, StagedCompiler.RANGE, 1, early);

        m = new Maker();
        int late = m.parameter(0);
        m.function(0, 400, 400, 8, m.pair(Maker.ADD, m.call(1, -1, -1), late));
        m.function(1, 400, 400, 8, m.broken());
        m.fails("an instance's own error before those that it wants", 0, 0, StagedCompiler.TYPE, 0, late);
    }

    /** A chain of functions, each calling the next one: the last one's body is bad, or it is good. */
    private static void meanwhile() {
        for (int bad = 0; bad < 2; bad++) {
            Maker m = new Maker();
            for (int f = 0; f < 7; f++) {
                m.function(f, 400, 400, 8, m.call(f + 1, -1, -1));
            }
            int body = m.number(bad == 0 ? 127 : 128);
            m.function(7, 400, 400, 8, body);
            if (bad == 0) {
                m.compiles("a chain", 0, 0, 8);
                Sheet.due("the last was looked at", m.x.known(7, body), 127);
            } else {
                m.fails("a chain", 0, 0, StagedCompiler.RANGE, 7, body);
            }
        }
    }

    private static void firstError() {
        Maker m = new Maker();
        int first = m.broken();
        int second = m.call(7, -1, -1);
        int sum = m.pair(Maker.ADD, first, second);
        m.function(0, 400, 400, 8, sum);
        m.function(1, 400, 400, 8, m.pair(Maker.ADD, second, first));
        m.fails("DIVISION, then CALL", 0, 0, StagedCompiler.DIVISION, 0, first);
        Sheet.due("CALL, then DIVISION", m.x.compile(1, 0, 0), StagedCompiler.CALL);
        Sheet.due("errorAt", m.x.errorAt(), 64 + second);
    }

    /** A CALL that stands in many places of a body wants its instance once, and counts once. */
    private static void once() {
        Maker m = new Maker();
        int n = m.call(1, m.parameter(0), -1);
        for (int i = 0; i < 6; i++) {
            n = m.pair(Maker.WRAPADD, n, n);
        }
        m.function(0, 8, 400, 8, n);
        m.function(1, 8, 400, 8, m.parameter(0));
        m.compiles("shared nodes", 0, 0, 2);
        Sheet.due("size", m.x.size(0), 7);
        Sheet.due("run", m.x.run(0, 3, 0), -64);

        m = new Maker();
        int p = m.parameter(0);
        m.function(0, 8, 400, 8, m.pair(Maker.ADD, p, m.call(1, m.number(3), -1)));
        m.function(1, -4, 400, 8, m.width(p));
        m.compiles("in another instance it is another", 0, 0, 2);
        Sheet.due("in 0", m.x.typeOf(0, p), 8);
        Sheet.due("in 1", m.x.typeOf(1, p), -4);
    }
}
