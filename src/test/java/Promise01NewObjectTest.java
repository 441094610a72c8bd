/** Promise 1: no nodes, no functions, no instances. */
public final class Promise01NewObjectTest {
    public static void main(String[] args) {
        isEmpty("first", new StagedCompiler());
        Maker used = new Maker();
        used.function(0, 400, 400, 8, used.number(5));
        used.compiles("used", 0, 0, 1);
        isEmpty("another, made after one was used", new StagedCompiler());
        Sheet.due("used: nodes", used.x.count(0), 1);
        Sheet.due("used: run", used.x.run(0, 0, 0), 5);
        Sheet.finish();
    }

    private static void isEmpty(String what, StagedCompiler x) {
        for (int i = 0; i < 4; i++) {
            Sheet.due(what + ": count " + i, x.count(i), 0);
        }
        Sheet.due(what + ": errorAt", x.errorAt(), -1);
        Sheet.due(what + ": functionOf", x.functionOf(0), StagedCompiler.REFUSED);
        Sheet.due(what + ": countOf", x.countOf(0, 0), StagedCompiler.NONE);
        Sheet.due(what + ": typeOf", x.typeOf(0, 0), StagedCompiler.REFUSED);
        Sheet.due(what + ": known", x.known(0, 0), StagedCompiler.NONE);
        Sheet.due(what + ": size", x.size(0), StagedCompiler.REFUSED);
        Sheet.due(what + ": run", x.run(0, 0, 0), StagedCompiler.NONE);
        for (int f = -1; f < 9; f++) {
            Sheet.due(what + ": compile " + f, x.compile(f, 1, 1), StagedCompiler.REFUSED);
        }
        Sheet.due(what + ": node with an operand", x.node(16, 0, 0, 0), StagedCompiler.REFUSED);
        Sheet.due(what + ": define", x.define(0, 400, 400, 8, 0), StagedCompiler.REFUSED);
    }
}
