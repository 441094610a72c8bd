/** Promise 2: node. */
public final class Promise02NodeTest {
    private static final int[] WILD = {Maker.MIN, -1000, -2, -1, 99, 1000, Maker.MAX};
    private static final int[] KINDS_OF_PAIRS = {2, 3, 4, 5, 6, 7, 8, 9, 10, 11, 12};

    public static void main(String[] args) {
        Sheet.test("Promise 2: it answers the node's number, 0, 1, ..", Promise02NodeTest::numbers);
        Sheet.test("Promise 2: kind out of 0 .. 16: REFUSED", Promise02NodeTest::kinds);
        Sheet.test("Promise 2: a PARAMETER out of 0, 1: REFUSED", Promise02NodeTest::parameters);
        Sheet.test("Promise 2: a CALL's function out of 0 .. 7: REFUSED", Promise02NodeTest::functions);
        Sheet.test("Promise 2: an operand that is no node: REFUSED", Promise02NodeTest::noNode);
        Sheet.test("Promise 2: an operand that is a later node: REFUSED", Promise02NodeTest::laterNode);
        Sheet.test("Promise 2: -1 is 'no argument' of a CALL alone", Promise02NodeTest::noArgument);
        Sheet.test("Promise 2: a CAST's code not one of those said: REFUSED", Promise02NodeTest::castCodes);
        Sheet.test("Promise 2: the LEVEL would be 9: REFUSED", Promise02NodeTest::levelNine);
        Sheet.test("Promise 2: the LEVEL is one more than the greatest of the operands",
            Promise02NodeTest::levelOfEachOperand);
        Sheet.test("Promise 2: the LEVEL is 1 without operands", Promise02NodeTest::levelOne);
        Sheet.test("Promise 2: 60 nodes: REFUSED", Promise02NodeTest::sixty);
        Sheet.test("Promise 2: what is not used by the kind may be any int", Promise02NodeTest::unused);
        Sheet.test("Promise 2: a REFUSED node changes nothing", Promise02NodeTest::refusedChangesNothing);
        Sheet.finish();
    }

    private static StagedCompiler withTwoNodes() {
        StagedCompiler x = new StagedCompiler();
        x.node(0, 5, 0, 0);
        x.node(1, 0, 0, 0);
        return x;
    }

    private static void refused(StagedCompiler x, int kind, int a, int b, int c) {
        Sheet.due("node(" + kind + ", " + a + ", " + b + ", " + c + ")", x.node(kind, a, b, c), -1);
    }

    private static void numbers() {
        StagedCompiler x = new StagedCompiler();
        for (int n = 0; n < 60; n++) {
            Sheet.due("node", x.node(n % 2, n % 2, 0, 0), n);
        }
    }

    private static void kinds() {
        StagedCompiler x = withTwoNodes();
        for (int bad : Maker.outOf(0, 16)) {
            refused(x, bad, 1, 1, 1);
        }
        for (int kind = 0; kind <= 16; kind++) {
            Sheet.due("kind " + kind, x.node(kind, 1, 1, 1), 2 + kind);
        }
    }

    private static void parameters() {
        StagedCompiler x = withTwoNodes();
        for (int bad : Maker.outOf(0, 1)) {
            refused(x, 1, bad, 0, 0);
        }
        Sheet.due("PARAMETER 0", x.node(1, 0, 0, 0), 2);
        Sheet.due("PARAMETER 1", x.node(1, 1, 0, 0), 3);
    }

    private static void functions() {
        StagedCompiler x = withTwoNodes();
        for (int bad : Maker.outOf(0, 7)) {
            refused(x, 15, bad, -1, -1);
            refused(x, 15, bad, 0, 1);
        }
        for (int f = 0; f < 8; f++) {
            Sheet.due("CALL of " + f, x.node(15, f, -1, -1), 2 + f);
        }
    }

    /** Asks that a number is refused in each place that an operand can have. */
    private static void refusedEverywhere(StagedCompiler x, int bad) {
        for (int kind : KINDS_OF_PAIRS) {
            refused(x, kind, bad, 0, 0);
            refused(x, kind, 0, bad, 0);
        }
        refused(x, 13, bad, 0, 0);
        refused(x, 13, 0, bad, 0);
        refused(x, 13, 0, 0, bad);
        refused(x, 14, bad, 8, 0);
        refused(x, 15, 0, bad, -1);
        refused(x, 15, 0, -1, bad);
        refused(x, 16, bad, 0, 0);
    }

    private static void noNode() {
        StagedCompiler x = withTwoNodes();
        for (int bad : new int[] {Maker.MIN, -2, 60, 64, Maker.MAX}) {
            refusedEverywhere(x, bad);
        }
    }

    private static void laterNode() {
        StagedCompiler x = withTwoNodes();
        // 2 would be the new node itself
        refusedEverywhere(x, 2);
        refusedEverywhere(x, 3);
        refusedEverywhere(x, 59);
        Sheet.due("with the newest one that is there", x.node(13, 1, 1, 1), 2);
        Sheet.due("which is one now", x.node(13, 2, 2, 2), 3);
    }

    private static void noArgument() {
        StagedCompiler x = withTwoNodes();
        for (int kind : KINDS_OF_PAIRS) {
            refused(x, kind, -1, 0, 0);
            refused(x, kind, 0, -1, 0);
        }
        refused(x, 13, -1, 0, 0);
        refused(x, 13, 0, -1, 0);
        refused(x, 13, 0, 0, -1);
        refused(x, 14, -1, 8, 0);
        refused(x, 16, -1, 0, 0);
        Sheet.due("neither", x.node(15, 0, -1, -1), 2);
        Sheet.due("the first alone", x.node(15, 0, 1, -1), 3);
        Sheet.due("the second alone", x.node(15, 0, -1, 1), 4);
        Sheet.due("both", x.node(15, 0, 0, 1), 5);
    }

    private static void castCodes() {
        for (int code = -450; code <= 450; code++) {
            boolean good = code != 0 && code >= -31 && code <= 31
                || code == 100 || code == 101 || code == 200 || code == 201;
            StagedCompiler x = new StagedCompiler();
            x.node(0, 5, 0, 0);
            Sheet.due("CAST to " + code, x.node(14, 0, code, 0), good ? 1 : -1);
        }
        StagedCompiler x = withTwoNodes();
        refused(x, 14, 0, Maker.MIN, 0);
        refused(x, 14, 0, Maker.MAX, 0);
    }

    private static void levelNine() {
        StagedCompiler x = new StagedCompiler();
        Sheet.due("level 1", x.node(0, 1, 0, 0), 0);
        for (int level = 2; level <= 8; level++) {
            Sheet.due("level " + level, x.node(2, level - 2, level - 2, 0), level - 1);
        }
        refused(x, 2, 7, 7, 0);
        Sheet.due("one more of level 8", x.node(2, 6, 6, 0), 8);
        refused(x, 2, 8, 8, 0);
        Sheet.due("level 8 is a body", x.define(0, 400, 400, 9, 7), 0);
        Sheet.due("that compiles", x.compile(0, 0, 0), 1);
        Sheet.due("and runs", x.run(0, 0, 0), 128);
    }

    /** Node 7 is of level 8, node 0 of level 1: what has node 7 in any place would be of level 9. */
    private static StagedCompiler withLevelEight() {
        StagedCompiler x = new StagedCompiler();
        x.node(0, 1, 0, 0);
        for (int n = 1; n < 8; n++) {
            x.node(2, 0, n - 1, 0);
        }
        return x;
    }

    private static void levelOfEachOperand() {
        StagedCompiler x = withLevelEight();
        refusedEverywhere(x, 7);
        refused(x, 15, 0, 7, 0);
        refused(x, 15, 0, 0, 7);
        Sheet.due("not the sum of theirs", x.node(13, 6, 6, 6), 8);
    }

    private static void levelOne() {
        StagedCompiler x = withLevelEight();
        int n = 8;
        for (int kind : new int[] {0, 1, 15}) {
            // 7 is a node of level 8, but no operand of a NUMBER or a PARAMETER
            int other = kind == 15 ? -1 : 7;
            Sheet.due("kind " + kind, x.node(kind, 1, other, other), n++);
            for (int level = 2; level <= 8; level++) {
                Sheet.due("level " + level + " above kind " + kind, x.node(16, n - 1, 0, 0), n++);
            }
            refused(x, 16, n - 1, 0, 0);
        }
    }

    private static void sixty() {
        for (int kind = 0; kind <= 16; kind++) {
            StagedCompiler x = new StagedCompiler();
            for (int n = 0; n < 59; n++) {
                x.node(0, n, 0, 0);
            }
            Sheet.due("the 60th, of kind " + kind, x.node(kind, 1, 1, 1), 59);
            refused(x, kind, 1, 1, 1);
            refused(x, 0, 0, 0, 0);
            Sheet.due("nodes", x.count(0), 60);
        }
    }

    private static void unused() {
        StagedCompiler x = withTwoNodes();
        int n = 2;
        for (int wild : WILD) {
            Sheet.due("NUMBER", x.node(0, wild, wild, wild), n++);
            Sheet.due("PARAMETER", x.node(1, 1, wild, wild), n++);
            Sheet.due("CAST", x.node(14, 0, 31, wild), n++);
            Sheet.due("WIDTH", x.node(16, 0, wild, wild), n++);
        }
        for (int kind : KINDS_OF_PAIRS) {
            StagedCompiler y = withTwoNodes();
            for (int i = 0; i < WILD.length; i++) {
                Sheet.due("kind " + kind, y.node(kind, 0, 1, WILD[i]), 2 + i);
            }
        }
        StagedCompiler y = withLevelEight();
        Sheet.due("what is no operand has no level", y.node(2, 0, 0, 7), 8);
        Sheet.due("a CALL's function is no operand", y.node(15, 7, 0, -1), 9);
        Sheet.due("a CAST's code is no operand", y.node(14, 0, 7, 7), 10);
        Sheet.due("a WIDTH has one operand", y.node(16, 0, 7, 7), 11);
    }

    private static void refusedChangesNothing() {
        Maker m = new Maker();
        m.function(0, 400, 400, 8, m.number(5));
        m.compiles("before", 0, 0, 1);
        refused(m.x, 17, 0, 0, 0);
        refused(m.x, 2, 0, 1, 0);
        refused(m.x, 14, 0, 0, 0);
        Sheet.due("nodes", m.x.count(0), 1);
        Sheet.due("functions", m.x.count(1), 1);
        Sheet.due("instances", m.x.count(2), 1);
        Sheet.due("run", m.x.run(0, 0, 0), 5);
        Sheet.due("the next number", m.x.node(0, 6, 0, 0), 1);
        Sheet.due("a node that is made lets instances stay", m.x.count(2), 1);
    }
}
