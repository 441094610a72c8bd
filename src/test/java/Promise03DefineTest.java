/** Promise 3: define. */
public final class Promise03DefineTest {
    public static void main(String[] args) {
        numbers();
        codes();
        bodies();
        refusedChangesNothing();
        parameterNeedNotBeCount();
        keepsInstances();
        Sheet.finish();
    }

    private static StagedCompiler withNode() {
        StagedCompiler x = new StagedCompiler();
        x.node(0, 0, 0, 0);
        return x;
    }

    private static void numbers() {
        StagedCompiler x = withNode();
        for (int bad : new int[] {Integer.MIN_VALUE, -1, 8, 9, Integer.MAX_VALUE}) {
            Sheet.due("define " + bad, x.define(bad, 8, 8, 8, 0), -1);
        }
        for (int f = 7; f >= 0; f--) {
            Sheet.due("define " + f, x.define(f, 8, 8, 8, 0), 0);
            Sheet.due("again", x.define(f, 8, 8, 8, 0), -1);
            Sheet.due("functions", x.count(1), 8 - f);
        }
    }

    private static boolean isResult(int code) {
        return code >= -31 && code <= 31
            || code == 100 || code == 101 || code == 200 || code == 201;
    }

    private static void codes() {
        for (int code = -450; code <= 450; code++) {
            int parameter = isResult(code) || code == 300 || code == 400 ? 0 : -1;
            Sheet.due("first " + code, withNode().define(0, code, 8, 8, 0), parameter);
            Sheet.due("second " + code, withNode().define(0, 8, code, 8, 0), parameter);
            Sheet.due("result " + code, withNode().define(0, 8, 8, code, 0), isResult(code) ? 0 : -1);
        }
        for (int code : new int[] {Integer.MIN_VALUE, Integer.MAX_VALUE}) {
            Sheet.due("first " + code, withNode().define(0, code, 8, 8, 0), -1);
            Sheet.due("second " + code, withNode().define(0, 8, code, 8, 0), -1);
            Sheet.due("result " + code, withNode().define(0, 8, 8, code, 0), -1);
        }
    }

    private static void bodies() {
        StagedCompiler x = withNode();
        for (int bad : new int[] {Integer.MIN_VALUE, -1, 1, 60, Integer.MAX_VALUE}) {
            Sheet.due("body " + bad, x.define(0, 8, 8, 8, bad), -1);
        }
        Sheet.due("body 0", x.define(0, 8, 8, 8, 0), 0);
        Sheet.due("the same body", x.define(1, 8, 8, 8, 0), 0);
    }

    private static void refusedChangesNothing() {
        StagedCompiler x = withNode();
        Sheet.due("bad", x.define(3, 8, 8, 300, 0), -1);
        Sheet.due("functions", x.count(1), 0);
        Sheet.due("not defined", x.compile(3, 0, 0), -1);
        Sheet.due("good", x.define(3, 400, 400, -8, 0), 0);
        Sheet.due("defined already", x.define(3, 8, 8, 8, 0), -1);
        Sheet.due("functions", x.count(1), 1);
        Sheet.due("compile", x.compile(3, 0, 0), 1);
        Sheet.due("run by the first definition", x.run(0, 999, 999), 0);
    }

    private static void parameterNeedNotBeCount() {
        StagedCompiler x = withNode();
        Sheet.due("of themselves", x.define(0, 100, 201, 8, 0), 0);
        Sheet.due("of none", x.define(1, 400, 400, 101, 0), 0);
        Sheet.due("is found when compiled", x.compile(0, 3, 3), StagedCompiler.WIDTH);
        Sheet.due("is found when compiled", x.compile(1, 3, 3), StagedCompiler.WIDTH);
    }

    private static void keepsInstances() {
        StagedCompiler x = withNode();
        x.define(0, 400, 400, 8, 0);
        x.compile(0, 0, 0);
        Sheet.due("define", x.define(1, 400, 400, 8, 0), 0);
        Sheet.due("instances stay", x.count(2), 1);
        Sheet.due("node", x.node(0, 3, 0, 0), 1);
        Sheet.due("instances stay", x.count(2), 1);
        Sheet.due("a newer node was not looked at", x.typeOf(0, 1), 400);
    }
}
