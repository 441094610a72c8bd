/** Makes nodes and functions of one object by their names, so that tests can be read. */
final class Maker {
    static final int ADD = 2;
    static final int SUB = 3;
    static final int MUL = 4;
    static final int DIV = 5;
    static final int WRAPADD = 6;
    static final int WRAPSUB = 7;
    static final int WRAPMUL = 8;
    static final int CLAMPADD = 9;
    static final int CLAMPSUB = 10;
    static final int LESS = 11;
    static final int SAME = 12;
    static final int MIN = Integer.MIN_VALUE;
    static final int MAX = Integer.MAX_VALUE;
    static final long TWO_31 = 1L << 31;

    final StagedCompiler x = new StagedCompiler();

    /** Numbers on both sides out of low .. high: the nearest, and the farthest. */
    static int[] outOf(int low, int high) {
        return new int[] {MIN, low - 1, high + 1, MAX};
    }

    static long low(int type) {
        return type > 0 ? -(1L << (type - 1)) : 0;
    }

    static long high(int type) {
        return type > 0 ? (1L << (type - 1)) - 1 : type == 0 ? 1 : (1L << -type) - 1;
    }

    private int made(int n) {
        if (n < 0) {
            throw new IllegalStateException("the test makes a node that is refused");
        }
        return n;
    }

    int number(int a) {
        return made(x.node(0, a, 0, 0));
    }

    int parameter(int k) {
        return made(x.node(1, k, 0, 0));
    }

    int pair(int kind, int a, int b) {
        return made(x.node(kind, a, b, 0));
    }

    int choose(int a, int b, int c) {
        return made(x.node(13, a, b, c));
    }

    int cast(int a, int code) {
        return made(x.node(14, a, code, 0));
    }

    int call(int f, int b, int c) {
        return made(x.node(15, f, b, c));
    }

    int width(int a) {
        return made(x.node(16, a, 0, 0));
    }

    /** The greatest COUNT, 2^31, which no NUMBER can be. */
    int greatest() {
        return pair(ADD, number(MAX), number(1));
    }

    int yes() {
        return pair(LESS, number(0), number(1));
    }

    int no() {
        return pair(LESS, number(1), number(0));
    }

    /** A node that is error DIVISION, if it is looked at. */
    int broken() {
        return pair(DIV, number(1), number(0));
    }

    void function(int f, int first, int second, int result, int body) {
        if (x.define(f, first, second, result, body) != 0) {
            throw new IllegalStateException("the test makes a function that is refused");
        }
    }

    /** Function 0 without parameters, with a TRUTH as its body that has looked at node n. */
    void looksAt(int n) {
        function(0, 400, 400, 0, pair(SAME, n, n));
    }

    /** Asks that function 0 compiles to so many instances, with no error. */
    void compiles(String what, int v, int w, int instances) {
        Sheet.due(what + ": compile", x.compile(0, v, w), instances);
        Sheet.due(what + ": errorAt", x.errorAt(), -1);
        Sheet.due(what + ": count(2)", x.count(2), instances);
    }

    /** Asks that compiling function 0 finds the error at a node of function f. */
    void fails(String what, int v, int w, int error, int f, int n) {
        Sheet.due(what + ": compile", x.compile(0, v, w), error);
        Sheet.due(what + ": errorAt", x.errorAt(), 64 * f + n);
        Sheet.due(what + ": count(2)", x.count(2), 0);
    }

    /** Asks for compile's answer: the error at a node of function 0, or, if it is 0, so many instances. */
    void answers(String what, int v, int w, int error, int n, int instances) {
        if (error == 0) {
            compiles(what, v, w, instances);
        } else {
            fails(what, v, w, error, 0, n);
        }
    }
}
