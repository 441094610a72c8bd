/** Promise 2: node. */
public final class Promise02NodeTest {
    private static final int[] WILD = {Integer.MIN_VALUE, -1000, -2, -1, 99, 1000, Integer.MAX_VALUE};

    public static void main(String[] args) {
        kinds();
        operands();
        unusedMayBeAny();
        parameters();
        castCodes();
        calls();
        levels();
        levelOfEachOperand();
        sixty();
        Sheet.finish();
    }

    private static StagedCompiler withTwoNodes() {
        StagedCompiler x = new StagedCompiler();
        Sheet.due("first node", x.node(0, 5, 0, 0), 0);
        Sheet.due("second node", x.node(1, 0, 0, 0), 1);
        return x;
    }

    private static void refused(StagedCompiler x, int kind, int a, int b, int c) {
        int before = x.count(0);
        String what = "node(" + kind + ", " + a + ", " + b + ", " + c + ")";
        Sheet.due(what, x.node(kind, a, b, c), -1);
        Sheet.due(what + ": nodes", x.count(0), before);
    }

    private static void kinds() {
        StagedCompiler x = withTwoNodes();
        for (int kind = 0; kind <= 16; kind++) {
            Sheet.due("kind " + kind, x.node(kind, 1, 1, 1), 2 + kind);
        }
        refused(x, -1, 0, 0, 0);
        refused(x, 17, 0, 0, 0);
        refused(x, Integer.MIN_VALUE, 0, 0, 0);
        refused(x, Integer.MAX_VALUE, 0, 0, 0);
        Sheet.due("nodes", x.count(0), 19);
    }

    private static void operands() {
        StagedCompiler x = withTwoNodes();
        for (int kind = 2; kind <= 13; kind++) {
            for (int bad : new int[] {Integer.MIN_VALUE, -1, 2, 3, 60, Integer.MAX_VALUE}) {
                refused(x, kind, bad, 0, 0);
                refused(x, kind, 0, bad, 0);
            }
        }
        for (int bad : new int[] {Integer.MIN_VALUE, -1, 2, 3, 60, Integer.MAX_VALUE}) {
            refused(x, 13, 0, 0, bad);
            refused(x, 14, bad, 8, 0);
            refused(x, 16, bad, 0, 0);
        }
        Sheet.due("the next number", x.node(2, 0, 1, 0), 2);
        Sheet.due("with the newest one", x.node(2, 2, 2, 0), 3);
    }

    private static void unusedMayBeAny() {
        StagedCompiler x = withTwoNodes();
        int n = 2;
        for (int wild : WILD) {
            Sheet.due("NUMBER", x.node(0, wild, wild, wild), n++);
            Sheet.due("PARAMETER", x.node(1, 1, wild, wild), n++);
            Sheet.due("ADD", x.node(2, 0, 1, wild), n++);
            Sheet.due("SAME", x.node(12, 0, 1, wild), n++);
            Sheet.due("CAST", x.node(14, 0, 31, wild), n++);
            Sheet.due("WIDTH", x.node(16, 0, wild, wild), n++);
        }
    }

    private static void parameters() {
        StagedCompiler x = withTwoNodes();
        for (int bad : WILD) {
            refused(x, 1, bad, 0, 0);
        }
        refused(x, 1, 2, 0, 0);
        Sheet.due("PARAMETER 0", x.node(1, 0, 0, 0), 2);
        Sheet.due("PARAMETER 1", x.node(1, 1, 0, 0), 3);
    }

    private static void castCodes() {
        for (int code = -450; code <= 450; code++) {
            boolean good = code != 0 && code >= -31 && code <= 31
                || code == 100 || code == 101 || code == 200 || code == 201;
            StagedCompiler x = new StagedCompiler();
            x.node(0, 5, 0, 0);
            Sheet.due("CAST to " + code, x.node(14, 0, code, 0), good ? 1 : -1);
        }
        StagedCompiler x = withTwoNodes();
        refused(x, 14, 0, Integer.MIN_VALUE, 0);
        refused(x, 14, 0, Integer.MAX_VALUE, 0);
    }

    private static void calls() {
        StagedCompiler x = withTwoNodes();
        for (int f = 0; f < 8; f++) {
            Sheet.due("CALL of " + f, x.node(15, f, -1, -1), 2 + f);
        }
        for (int bad : new int[] {Integer.MIN_VALUE, -1, 8, 9, Integer.MAX_VALUE}) {
            refused(x, 15, bad, -1, -1);
        }
        for (int bad : new int[] {Integer.MIN_VALUE, -2, 10, 60, Integer.MAX_VALUE}) {
            refused(x, 15, 0, bad, -1);
            refused(x, 15, 0, -1, bad);
        }
        Sheet.due("with the first argument alone", x.node(15, 0, 9, -1), 10);
        Sheet.due("with the second argument alone", x.node(15, 0, -1, 0), 11);
        Sheet.due("with both", x.node(15, 7, 1, 10), 12);
    }

    private static void levels() {
        StagedCompiler x = new StagedCompiler();
        Sheet.due("level 1", x.node(15, 0, -1, -1), 0);
        for (int level = 2; level <= 8; level++) {
            Sheet.due("level " + level, x.node(16, level - 2, 0, 0), level - 1);
        }
        refused(x, 16, 7, 0, 0);
        Sheet.due("beside it", x.node(16, 6, 0, 0), 8);
    }

    /** Node 7 is of level 8, node 0 of level 1: what has node 7 in any place is refused. */
    private static void levelOfEachOperand() {
        StagedCompiler x = new StagedCompiler();
        x.node(0, 1, 0, 0);
        for (int n = 1; n < 8; n++) {
            x.node(2, 0, n - 1, 0);
        }
        for (int kind = 2; kind <= 12; kind++) {
            refused(x, kind, 7, 0, 0);
            refused(x, kind, 0, 7, 0);
        }
        refused(x, 13, 7, 0, 0);
        refused(x, 13, 0, 7, 0);
        refused(x, 13, 0, 0, 7);
        refused(x, 14, 7, 8, 0);
        refused(x, 15, 0, 7, -1);
        refused(x, 15, 0, -1, 7);
        refused(x, 15, 0, 7, 0);
        refused(x, 16, 7, 0, 0);
        Sheet.due("what is no operand has no level", x.node(2, 0, 0, 7), 8);
        Sheet.due("a CALL's function is no operand", x.node(15, 7, 0, -1), 9);
        Sheet.due("a CAST's code is no operand", x.node(14, 0, 7, 0), 10);
        Sheet.due("a NUMBER has none", x.node(0, 7, 7, 7), 11);
    }

    private static void sixty() {
        StagedCompiler x = new StagedCompiler();
        for (int n = 0; n < 60; n++) {
            Sheet.due("node " + n, x.node(0, n, 0, 0), n);
        }
        for (int kind = 0; kind <= 16; kind++) {
            refused(x, kind, 1, 1, 1);
        }
        Sheet.due("nodes", x.count(0), 60);
        Sheet.due("the last is a body", x.define(0, 400, 400, 8, 59), 0);
        Sheet.due("compile", x.compile(0, 0, 0), 1);
        Sheet.due("run", x.run(0, 0, 0), 59);
    }
}
