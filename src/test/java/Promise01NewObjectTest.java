/** Promise 1: a new object. */
public final class Promise01NewObjectTest {
    private static final int REFUSED = StagedCompiler.REFUSED;
    private static final long NONE = StagedCompiler.NONE;

    public static void main(String[] args) {
        Sheet.test("Promise 1: no nodes", Promise01NewObjectTest::noNodes);
        Sheet.test("Promise 1: no functions", Promise01NewObjectTest::noFunctions);
        Sheet.test("Promise 1: no instances", Promise01NewObjectTest::noInstances);
        Sheet.test("Promise 1: nothing of another object", Promise01NewObjectTest::nothingOfAnother);
        Sheet.test("Promise 1: used for at most 512 calls: the 512th is answered", Promise01NewObjectTest::last);
        Sheet.finish();
    }

    private static void noNodes() {
        StagedCompiler x = new StagedCompiler();
        Sheet.due("count(0)", x.count(0), 0);
        for (int kind = 2; kind <= 16; kind++) {
            if (kind != 15) {
                Sheet.due("kind " + kind + " with node 0", x.node(kind, 0, kind == 14 ? 8 : 0, 0), REFUSED);
            }
        }
        Sheet.due("CALL with node 0", x.node(15, 0, 0, -1), REFUSED);
        Sheet.due("body 0", x.define(0, 400, 400, 8, 0), REFUSED);
        Sheet.due("the first node", x.node(0, 0, 0, 0), 0);
    }

    private static void noFunctions() {
        StagedCompiler x = new StagedCompiler();
        Sheet.due("count(1)", x.count(1), 0);
        for (int f = 0; f < 8; f++) {
            Sheet.due("compile " + f, x.compile(f, 1, 1), REFUSED);
        }
        x.node(0, 0, 0, 0);
        for (int f = 0; f < 8; f++) {
            Sheet.due("define " + f, x.define(f, 400, 400, 8, 0), 0);
        }
    }

    private static void noInstances() {
        StagedCompiler x = new StagedCompiler();
        x.node(0, 0, 0, 0);
        x.define(0, 300, 300, 8, 0);
        Sheet.due("count(2)", x.count(2), 0);
        Sheet.due("functionOf", x.functionOf(0), REFUSED);
        Sheet.due("countOf", x.countOf(0, 0), NONE);
        Sheet.due("typeOf", x.typeOf(0, 0), REFUSED);
        Sheet.due("known", x.known(0, 0), NONE);
        Sheet.due("size", x.size(0), REFUSED);
        Sheet.due("run", x.run(0, 0, 0), NONE);
    }

    private static void nothingOfAnother() {
        Maker used = new Maker();
        used.function(0, 400, 400, 8, used.number(5));
        used.compiles("used", 0, 0, 1);
        StagedCompiler x = new StagedCompiler();
        for (int what = 0; what < 4; what++) {
            Sheet.due("count " + what, x.count(what), 0);
        }
        Sheet.due("errorAt", x.errorAt(), -1);
        Sheet.due("compile", x.compile(0, 0, 0), REFUSED);
        Sheet.due("run", x.run(0, 0, 0), NONE);
        Sheet.due("used: nodes", used.x.count(0), 1);
        Sheet.due("used: run", used.x.run(0, 0, 0), 5);
    }

    /** All that can be full is full early on; then the object is compiled and run again and again. */
    private static void last() {
        StagedCompiler x = new StagedCompiler();
        for (int n = 0; n < 60; n++) {
            Sheet.due("node " + n, x.node(1, 0, 0, 0), n);
        }
        for (int f = 0; f < 8; f++) {
            Sheet.due("function " + f, x.define(f, 8, 400, 8, f), 0);
        }
        int calls = 68;
        while (calls < 510) {
            Sheet.due("call " + (calls + 1), x.compile(calls % 8, 0, 0), 1);
            Sheet.due("call " + (calls + 2), x.run(0, calls % 100, 0), calls % 100);
            calls += 2;
        }
        Sheet.due("call 511", x.compile(7, 0, 0), 1);
        Sheet.due("call 512", x.run(0, -128, 0), -128);
    }
}
