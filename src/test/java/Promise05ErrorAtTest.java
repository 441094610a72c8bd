import java.util.function.ToIntFunction;

/** Promise 5: errorAt. */
public final class Promise05ErrorAtTest {
    private static final int WIDTH = StagedCompiler.WIDTH;
    private static final int RANGE = StagedCompiler.RANGE;
    private static final int TYPE = StagedCompiler.TYPE;
    private static final int CALL = StagedCompiler.CALL;

    public static void main(String[] args) {
        Sheet.test("Promise 5: -1 at first", Promise05ErrorAtTest::atFirst);
        Sheet.test("Promise 5: -1 if compile found none", Promise05ErrorAtTest::foundNone);
        Sheet.test("Promise 5: a compile that is REFUSED changes nothing", Promise05ErrorAtTest::refused);
        Sheet.test("Promise 5: other calls change nothing", Promise05ErrorAtTest::otherCalls);
        Sheet.test("Promise 5: 64 * function + node, from 0 to 64 * 7 + 59", Promise05ErrorAtTest::ends);
        Sheet.test("Promise 5: its function is the one of the instance", Promise05ErrorAtTest::functions);
        Sheet.test("Promise 5: its function, for an error of a node that is no CALL", Promise05ErrorAtTest::ownErrors);
        Sheet.test("Promise 5: its function, for an error of a CALL", Promise05ErrorAtTest::callErrors);
        Sheet.test("Promise 5: the node that was being LOOKED AT", Promise05ErrorAtTest::underEachOperand);
        Sheet.test("Promise 5: errors of the body against the result are at the body", Promise05ErrorAtTest::bodies);
        Sheet.test("Promise 5: a WIDTH of compile's own instance: 63", Promise05ErrorAtTest::ownWidth);
        Sheet.test("Promise 5: a WIDTH of a CALL's instance: the CALL, in its function",
            Promise05ErrorAtTest::calledWidth);
        Sheet.test("Promise 5: QUOTA is at the CALL", Promise05ErrorAtTest::quota);
        Sheet.finish();
    }

    private static void atFirst() {
        Maker m = new Maker();
        Sheet.due("new", m.x.errorAt(), -1);
        m.function(0, 400, 400, 8, m.number(500));
        Sheet.due("before compile", m.x.errorAt(), -1);
        Sheet.due("REFUSED", m.x.compile(1, 0, 0), -1);
        Sheet.due("still", m.x.errorAt(), -1);
    }

    /** Function 0 is error RANGE at node 0, function 1 is good. */
    private static Maker withError() {
        Maker m = new Maker();
        m.function(0, 400, 400, 8, m.number(500));
        m.function(1, 400, 400, 8, m.number(5));
        m.fails("bad", 0, 0, RANGE, 0, 0);
        return m;
    }

    private static void foundNone() {
        Maker m = withError();
        Sheet.due("good", m.x.compile(1, 0, 0), 1);
        Sheet.due("errorAt", m.x.errorAt(), -1);
        m.fails("bad again", 0, 0, RANGE, 0, 0);
    }

    private static void refused() {
        for (int f : new int[] {Maker.MIN, -1, 2, 7, 8, Maker.MAX}) {
            Maker m = withError();
            Sheet.due("REFUSED", m.x.compile(f, 0, 0), -1);
            Sheet.due("after an error", m.x.errorAt(), 0);
            Sheet.due("good", m.x.compile(1, 0, 0), 1);
            Sheet.due("REFUSED", m.x.compile(f, 0, 0), -1);
            Sheet.due("after none", m.x.errorAt(), -1);
        }
    }

    private static void otherCalls() {
        Maker m = withError();
        m.x.errorAt();
        m.x.node(0, 1, 0, 0);
        m.x.node(99, 0, 0, 0);
        m.x.define(2, 400, 400, 8, 0);
        m.x.define(2, 400, 400, 8, 0);
        m.x.functionOf(0);
        m.x.countOf(0, 0);
        m.x.typeOf(0, 0);
        m.x.known(0, 0);
        m.x.size(0);
        m.x.run(0, 0, 0);
        m.x.count(2);
        m.x.count(9);
        Sheet.due("errorAt", m.x.errorAt(), 0);
    }

    private static void ends() {
        for (int f : new int[] {0, 7}) {
            for (int n : new int[] {0, 59}) {
                StagedCompiler x = new StagedCompiler();
                for (int i = 0; i < 60; i++) {
                    x.node(0, i == n ? 128 : 0, 0, 0);
                }
                x.define(f, 400, 400, 8, n);
                Sheet.due("compile", x.compile(f, 0, 0), RANGE);
                Sheet.due("function " + f + ", node " + n, x.errorAt(), 64 * f + n);
            }
        }
    }

    private static void functions() {
        for (int f = 1; f < 8; f++) {
            Maker m = new Maker();
            int shared = m.pair(Maker.ADD, m.parameter(0), m.number(200));
            m.function(0, -8, 400, -8, m.pair(Maker.ADD, shared, m.call(f, m.number(1), -1)));
            m.function(f, 8, 400, -8, shared);
            m.fails("a node that is fine in function 0", 0, 0, RANGE, f, shared);
        }
    }

    /**
     * Function 0 calls function 5, which looks at the node that is made here and finds its error. Its
     * parameters are a TRUTH and none; functions 4, 3 and 2 are there to be called wrongly.
     */
    private static void inCalled(String what, int error, ToIntFunction<Maker> make) {
        Maker m = new Maker();
        int n = make.applyAsInt(m);
        m.function(5, 0, 400, 0, m.pair(Maker.SAME, n, n));
        m.function(4, 300, 400, 100, m.number(0));
        m.function(3, 300, 0, 8, m.number(0));
        m.function(2, 8, 400, 8, m.number(0));
        m.function(0, 400, 400, 0, m.call(5, m.yes(), -1));
        m.fails(what, 0, 0, error, 5, n);
    }

    private static int truth(Maker m) {
        return m.parameter(0);
    }

    private static int eight(Maker m) {
        return m.cast(m.number(1), 8);
    }

    private static void ownErrors() {
        inCalled("no parameter", TYPE, m -> m.parameter(1));
        inCalled("not fitted", TYPE, m -> m.pair(Maker.ADD, m.number(1), truth(m)));
        inCalled("fitted, not in the range", RANGE, m -> m.pair(Maker.ADD, m.number(500), eight(m)));
        inCalled("two TRUTHs", TYPE, m -> m.pair(Maker.ADD, truth(m), truth(m)));
        inCalled("two COUNTs", TYPE, m -> m.pair(Maker.WRAPADD, m.number(1), m.number(1)));
        inCalled("a KNOWN OVERFLOW", RANGE, m -> m.pair(Maker.MUL, m.number(Maker.MAX), m.number(2)));
        inCalled("DIV by 0", StagedCompiler.DIVISION, Maker::broken);
        inCalled("IF of a COUNT", TYPE, m -> m.choose(m.number(1), m.number(1), m.number(1)));
        inCalled("IF of two COUNTs", TYPE, m -> m.choose(truth(m), m.number(1), m.number(1)));
        inCalled("IF of two types", TYPE, m -> m.choose(truth(m), eight(m), truth(m)));
        inCalled("IF, not in the range", RANGE, m -> m.choose(truth(m), eight(m), m.number(500)));
        inCalled("CAST of TRUTH", TYPE, m -> m.cast(truth(m), 8));
        inCalled("CAST by no COUNT", WIDTH, m -> m.cast(m.number(1), 101));
        inCalled("CAST, not in the range", RANGE, m -> m.cast(m.number(500), 8));
        inCalled("WIDTH of TRUTH", TYPE, m -> m.width(truth(m)));
        inCalled("WIDTH of COUNT", TYPE, m -> m.width(m.number(1)));
    }

    private static void callErrors() {
        inCalled("not defined", CALL, m -> m.call(7, -1, -1));
        inCalled("not given", CALL, m -> m.call(2, -1, -1));
        inCalled("needless", CALL, m -> m.call(2, m.number(1), m.number(1)));
        inCalled("not COUNT", TYPE, m -> m.call(3, truth(m), truth(m)));
        inCalled("another TYPE", TYPE, m -> m.call(3, m.number(1), m.number(1)));
        inCalled("not in the range", RANGE, m -> m.call(2, m.number(500), -1));
        inCalled("a bad width", WIDTH, m -> m.call(4, m.number(0), -1));
    }

    /** A node that is bad under each operand of each kind is where the error is, not what is above. */
    private static void underEachOperand() {
        for (int kind = 2; kind <= 16; kind++) {
            for (int place = 0; place < 3; place++) {
                boolean isOperand = kind == 13 || kind <= 12 && place < 2
                    || kind == 14 && place == 0 || kind == 15 && place > 0 || kind == 16 && place == 0;
                if (isOperand) {
                    underOperand(kind, place);
                }
            }
        }
    }

    private static void underOperand(int kind, int place) {
        Maker m = new Maker();
        int good = m.parameter(0);
        int broken = m.broken();
        int[] operands = {good, good, good};
        if (kind == 13) {
            operands[0] = m.pair(Maker.LESS, good, good);
        } else if (kind == 14) {
            operands[1] = 8;
        } else if (kind == 15) {
            operands[0] = 1;
        }
        operands[place] = broken;
        int n = m.x.node(kind, operands[0], operands[1], operands[2]);
        m.function(0, 8, 400, 8, n);
        m.function(1, 8, 8, 8, good);
        m.fails("operand " + place + " of kind " + kind, 0, 0, StagedCompiler.DIVISION, 0, broken);
    }

    private static void bodies() {
        for (int f = 1; f < 8; f++) {
            Maker m = new Maker();
            int body = m.parameter(0);
            m.function(0, 8, 400, 9, m.call(f, m.number(1), -1));
            m.function(f, 8, 400, 9, body);
            m.fails("TYPE", 0, 0, TYPE, f, body);
            m = new Maker();
            body = m.number(500);
            m.function(0, 8, 400, 9, m.call(f, m.number(1), -1));
            m.function(f, 8, 400, 9, body);
            m.fails("RANGE", 0, 0, RANGE, f, body);
        }
    }

    private static void ownWidth() {
        for (int f = 0; f < 8; f++) {
            int[][] codes = {{101, 300, 8}, {300, 100, 8}, {300, 300, 100}};
            for (int[] face : codes) {
                StagedCompiler x = new StagedCompiler();
                x.node(0, 1, 0, 0);
                x.define(f, face[0], face[1], face[2], 0);
                Sheet.due("compile", x.compile(f, 32, 32), WIDTH);
                Sheet.due("function " + f, x.errorAt(), 64 * f + 63);
            }
        }
    }

    private static void calledWidth() {
        int[][] codes = {{101, 300, 8}, {300, 100, 8}, {300, 300, 100}};
        for (int[] face : codes) {
            Maker m = new Maker();
            int zero = m.number(0);
            int n = m.call(2, zero, zero);
            m.function(0, 400, 400, 8, m.call(5, -1, -1));
            m.function(5, 400, 400, 8, n);
            m.function(2, face[0], face[1], face[2], zero);
            m.fails("in function 5", 0, 0, WIDTH, 5, n);
            Sheet.due("compile of function 5 itself", m.x.compile(5, 0, 0), WIDTH);
            Sheet.due("errorAt", m.x.errorAt(), 64 * 5 + n);
        }
        Maker m = new Maker();
        int n = m.call(0, m.number(32), -1);
        m.function(0, 300, 400, 100, n);
        m.fails("a CALL of the function itself", 5, 0, WIDTH, 0, n);
    }

    private static void quota() {
        Maker m = new Maker();
        int p = m.parameter(0);
        int n = m.call(3, m.pair(Maker.ADD, p, m.number(1)), -1);
        m.function(0, 400, 400, 8, m.call(3, m.number(0), -1));
        m.function(3, 300, 400, 8, n);
        m.fails("in function 3", 0, 0, StagedCompiler.QUOTA, 3, n);
    }
}
