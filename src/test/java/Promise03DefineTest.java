/** Promise 3: define. */
public final class Promise03DefineTest {
    private static final int REFUSED = StagedCompiler.REFUSED;

    public static void main(String[] args) {
        Sheet.test("Promise 3: it answers 0 for each f 0 .. 7", Promise03DefineTest::eight);
        Sheet.test("Promise 3: f out of 0 .. 7: REFUSED", Promise03DefineTest::functions);
        Sheet.test("Promise 3: it is defined: REFUSED", Promise03DefineTest::definedAlready);
        Sheet.test("Promise 3: the first TYPE CODE is none: REFUSED", Promise03DefineTest::firstCodes);
        Sheet.test("Promise 3: the second TYPE CODE is none: REFUSED", Promise03DefineTest::secondCodes);
        Sheet.test("Promise 3: the result's TYPE CODE is none, 300 or 400: REFUSED",
            Promise03DefineTest::resultCodes);
        Sheet.test("Promise 3: the body is no node: REFUSED", Promise03DefineTest::bodies);
        Sheet.test("Promise 3: a REFUSED define changes nothing", Promise03DefineTest::refusedChangesNothing);
        Sheet.test("Promise 3: a TYPE CODE by a parameter that is no COUNT one is a TYPE CODE",
            Promise03DefineTest::byNoCount);
        Sheet.test("Promise 3: the instances stay", Promise03DefineTest::keepsInstances);
        Sheet.finish();
    }

    private static StagedCompiler withNode() {
        StagedCompiler x = new StagedCompiler();
        x.node(0, 0, 0, 0);
        return x;
    }

    private static void eight() {
        StagedCompiler x = withNode();
        for (int f = 7; f >= 0; f--) {
            Sheet.due("define " + f, x.define(f, 8, 8, 8, 0), 0);
            Sheet.due("functions", x.count(1), 8 - f);
        }
    }

    private static void functions() {
        StagedCompiler x = withNode();
        for (int bad : Maker.outOf(0, 7)) {
            Sheet.due("define " + bad, x.define(bad, 8, 8, 8, 0), REFUSED);
        }
    }

    private static void definedAlready() {
        StagedCompiler x = withNode();
        for (int f = 0; f < 8; f++) {
            Sheet.due("define " + f, x.define(f, 400, 400, -8, 0), 0);
            Sheet.due("the same again", x.define(f, 400, 400, -8, 0), REFUSED);
            Sheet.due("another", x.define(f, 8, 8, 8, 0), REFUSED);
            Sheet.due("functions", x.count(1), f + 1);
            Sheet.due("compile", x.compile(f, 0, 0), 1);
            Sheet.due("the first one runs", x.run(0, 999, 999), 0);
        }
    }

    private static boolean isResult(int code) {
        return code >= -31 && code <= 31
            || code == 100 || code == 101 || code == 200 || code == 201;
    }

    private static int dueForParameter(int code) {
        return isResult(code) || code == 300 || code == 400 ? 0 : REFUSED;
    }

    private static void firstCodes() {
        for (int code = -450; code <= 450; code++) {
            Sheet.due("first " + code, withNode().define(0, code, 8, 8, 0), dueForParameter(code));
        }
        Sheet.due("least", withNode().define(0, Maker.MIN, 8, 8, 0), REFUSED);
        Sheet.due("greatest", withNode().define(0, Maker.MAX, 8, 8, 0), REFUSED);
    }

    private static void secondCodes() {
        for (int code = -450; code <= 450; code++) {
            Sheet.due("second " + code, withNode().define(0, 8, code, 8, 0), dueForParameter(code));
        }
        Sheet.due("least", withNode().define(0, 8, Maker.MIN, 8, 0), REFUSED);
        Sheet.due("greatest", withNode().define(0, 8, Maker.MAX, 8, 0), REFUSED);
    }

    private static void resultCodes() {
        for (int code = -450; code <= 450; code++) {
            int due = isResult(code) ? 0 : REFUSED;
            Sheet.due("result " + code, withNode().define(0, 300, 300, code, 0), due);
        }
        Sheet.due("least", withNode().define(0, 300, 300, Maker.MIN, 0), REFUSED);
        Sheet.due("greatest", withNode().define(0, 300, 300, Maker.MAX, 0), REFUSED);
    }

    private static void bodies() {
        StagedCompiler x = new StagedCompiler();
        Sheet.due("body 0, of none", x.define(0, 8, 8, 8, 0), REFUSED);
        x.node(0, 0, 0, 0);
        for (int bad : new int[] {Maker.MIN, -1, 1, 59, 60, Maker.MAX}) {
            Sheet.due("body " + bad, x.define(0, 8, 8, 8, bad), REFUSED);
        }
        Sheet.due("body 0", x.define(0, 8, 8, 8, 0), 0);
        Sheet.due("the same body", x.define(1, 8, 8, 8, 0), 0);
        for (int n = 1; n < 60; n++) {
            x.node(0, n, 0, 0);
        }
        Sheet.due("the last of 60", x.define(2, 8, 8, 8, 59), 0);
        Sheet.due("one more", x.define(3, 8, 8, 8, 60), REFUSED);
    }

    private static void refusedChangesNothing() {
        StagedCompiler x = withNode();
        Sheet.due("bad first", x.define(3, 32, 8, 8, 0), REFUSED);
        Sheet.due("bad second", x.define(3, 8, 32, 8, 0), REFUSED);
        Sheet.due("bad result", x.define(3, 8, 8, 300, 0), REFUSED);
        Sheet.due("bad body", x.define(3, 8, 8, 8, 1), REFUSED);
        Sheet.due("functions", x.count(1), 0);
        Sheet.due("not defined", x.compile(3, 0, 0), REFUSED);
        Sheet.due("good", x.define(3, 400, 400, 8, 0), 0);
        Sheet.due("compile", x.compile(3, 0, 0), 1);
    }

    private static void byNoCount() {
        StagedCompiler x = withNode();
        Sheet.due("of themselves", x.define(0, 100, 201, 8, 0), 0);
        Sheet.due("of none", x.define(1, 400, 400, 101, 0), 0);
        Sheet.due("is found by compile", x.compile(0, 3, 3), StagedCompiler.WIDTH);
        Sheet.due("is found by compile", x.compile(1, 3, 3), StagedCompiler.WIDTH);
    }

    private static void keepsInstances() {
        StagedCompiler x = withNode();
        x.define(0, 400, 400, 8, 0);
        x.compile(0, 0, 0);
        Sheet.due("define", x.define(1, 400, 400, 8, 0), 0);
        Sheet.due("instances", x.count(2), 1);
        Sheet.due("REFUSED", x.define(1, 400, 400, 8, 0), REFUSED);
        Sheet.due("instances", x.count(2), 1);
        Sheet.due("run", x.run(0, 0, 0), 0);
    }
}
