/** Promise 4: compile, with what LOOKING AT each kind finds and which error it is. */
public final class Promise04CompileTest {
    private static final int TYPE = StagedCompiler.TYPE;
    private static final int RANGE = StagedCompiler.RANGE;
    private static final int WIDTH = StagedCompiler.WIDTH;
    private static final int DIVISION = StagedCompiler.DIVISION;
    private static final int CALL = StagedCompiler.CALL;
    private static final int QUOTA = StagedCompiler.QUOTA;

    public static void main(String[] args) {
        refusedKeepsInstances();
        errorLeavesNoInstances();
        missingParameter();
        fitting();
        fittingAtTheEnds();
        pairsOfTruth();
        pairsOfCounts();
        knownInTypes();
        ifs();
        casts();
        widths();
        bodies();
        instanceWidths();
        callErrors();
        callArguments();
        callOrder();
        instancesInOrder();
        oneInstanceForEachSet();
        quota();
        quotaBeforeWidth();
        greatCounts();
        untakenIsUnlookedAt();
        lookedAtOnce();
        Sheet.finish();
    }

    private static void refusedKeepsInstances() {
        Maker m = new Maker();
        m.function(0, 400, 400, 8, m.number(5));
        m.compiles("good", 0, 0, 1);
        for (int f : new int[] {Maker.MIN, -1, 1, 7, 8, Maker.MAX}) {
            Sheet.due("compile " + f, m.x.compile(f, 0, 0), -1);
            Sheet.due("instances stay", m.x.count(2), 1);
            Sheet.due("run", m.x.run(0, 0, 0), 5);
        }
    }

    private static void errorLeavesNoInstances() {
        Maker m = new Maker();
        m.function(0, 400, 400, 8, m.number(500));
        m.function(1, 400, 400, 8, m.number(5));
        Sheet.due("good", m.x.compile(1, 0, 0), 1);
        m.fails("bad", 0, 0, RANGE, 0, 0);
        Sheet.due("no run", m.x.run(0, 0, 0), StagedCompiler.NONE);
        Sheet.due("no function", m.x.functionOf(0), -1);
        Sheet.due("good again", m.x.compile(1, 0, 0), 1);
        Sheet.due("run", m.x.run(0, 0, 0), 5);
    }

    private static void missingParameter() {
        Maker m = new Maker();
        int p = m.parameter(1);
        m.function(0, 8, 400, 8, m.pair(Maker.ADD, m.parameter(0), p));
        m.fails("a parameter with code 400", 0, 0, TYPE, 0, p);
    }

    /** Function 0 is the pair of its parameters. */
    private static int pairOf(int kind, int first, int second, int result) {
        Maker m = new Maker();
        int n = m.pair(kind, m.parameter(0), m.parameter(1));
        m.function(0, first, second, result, n);
        int answer = m.x.compile(0, 3, 3);
        Sheet.due("errorAt", m.x.errorAt(), answer < 0 ? n : -1);
        return answer;
    }

    private static void fitting() {
        for (int kind = 2; kind <= 12; kind++) {
            boolean compares = kind >= 11;
            for (int type : new int[] {1, 8, 31, -1, -8, -31}) {
                int result = compares ? 0 : type;
                Sheet.due(kind + " of same", pairOf(kind, type, type, result), 1);
                Sheet.due(kind + " of other width", pairOf(kind, type, 9, result), TYPE);
                Sheet.due(kind + " of other sign", pairOf(kind, type, -type, result), TYPE);
                Sheet.due(kind + " with TRUTH", pairOf(kind, type, 0, result), TYPE);
                Sheet.due(kind + " of TRUTH", pairOf(kind, 0, type, result), TYPE);
            }
            int result = compares ? 0 : 8;
            Sheet.due(kind + " with COUNT", pairOf(kind, 8, 300, result), 1);
            Sheet.due(kind + " of COUNT", pairOf(kind, 300, 8, result), 1);
            Sheet.due(kind + " COUNT out of range", pairOf(kind, 300, 2, result), RANGE);
            Sheet.due(kind + " COUNT out of range", pairOf(kind, 2, 300, result), RANGE);
            Sheet.due(kind + " COUNT with TRUTH", pairOf(kind, 300, 0, result), TYPE);
            Sheet.due(kind + " TRUTH with COUNT", pairOf(kind, 0, 300, result), TYPE);
        }
    }

    private static void fittingAtTheEnds() {
        for (int w = 1; w <= 31; w++) {
            fitsAtEnds(w, -(1L << (w - 1)), (1L << (w - 1)) - 1);
            fitsAtEnds(-w, 0, (1L << w) - 1);
        }
    }

    private static void fitsAtEnds(int type, long low, long high) {
        fitsCount(type, low, true);
        fitsCount(type, high, true);
        fitsCount(type, low - 1, false);
        if (high < Integer.MAX_VALUE) {
            fitsCount(type, high + 1, false);
        }
    }

    private static void fitsCount(int type, long value, boolean fits) {
        Maker m = new Maker();
        int n = m.pair(Maker.SAME, m.parameter(0), m.number((int) value));
        m.function(0, type, 400, 0, n);
        Sheet.due(value + " as " + type, m.x.compile(0, 0, 0), fits ? 1 : RANGE);
        Sheet.due("errorAt", m.x.errorAt(), fits ? -1 : n);
    }

    private static void pairsOfTruth() {
        for (int kind = 2; kind <= 12; kind++) {
            Sheet.due(kind + " of TRUTH", pairOf(kind, 0, 0, 0), kind == Maker.SAME ? 1 : TYPE);
        }
        Maker m = new Maker();
        int same = m.pair(Maker.SAME, m.yes(), m.no());
        m.function(0, 400, 400, 0, same);
        m.compiles("SAME of known TRUTHs", 0, 0, 1);
        Sheet.due("known", m.x.known(0, same), 0);
    }

    private static void counted(int kind, int a, int b, int error, long value) {
        Maker m = new Maker();
        int n = m.pair(kind, m.number(a), m.number(b));
        m.function(0, 400, 400, 0, m.pair(Maker.SAME, n, n));
        String what = kind + " of " + a + " and " + b;
        if (error != 0) {
            m.fails(what, 0, 0, error, 0, n);
            return;
        }
        m.compiles(what, 0, 0, 1);
        Sheet.due(what + ": known", m.x.known(0, n), value);
        Sheet.due(what + ": type", m.x.typeOf(0, n), kind >= 11 ? 0 : 300);
    }

    private static void pairsOfCounts() {
        counted(Maker.ADD, Maker.MAX, 1, 0, Maker.TWO_31);
        counted(Maker.ADD, Maker.MAX, 2, RANGE, 0);
        counted(Maker.ADD, Maker.MIN, 0, 0, Maker.MIN);
        counted(Maker.ADD, Maker.MIN, -1, RANGE, 0);
        counted(Maker.SUB, 0, Maker.MIN, 0, Maker.TWO_31);
        counted(Maker.SUB, 1, Maker.MIN, RANGE, 0);
        counted(Maker.SUB, Maker.MIN, 1, RANGE, 0);
        counted(Maker.MUL, 65536, 32768, 0, Maker.TWO_31);
        counted(Maker.MUL, 65536, -32768, 0, Maker.MIN);
        counted(Maker.MUL, 65536, 65536, RANGE, 0);
        counted(Maker.MUL, Maker.MIN, Maker.MIN, RANGE, 0);
        counted(Maker.DIV, Maker.MIN, -1, 0, Maker.TWO_31);
        counted(Maker.DIV, -7, 2, 0, -3);
        counted(Maker.DIV, 7, -2, 0, -3);
        counted(Maker.DIV, -7, -2, 0, 3);
        counted(Maker.DIV, 0, 5, 0, 0);
        counted(Maker.DIV, 5, 0, DIVISION, 0);
        counted(Maker.DIV, 0, 0, DIVISION, 0);
        for (int kind = Maker.WRAPADD; kind <= Maker.CLAMPSUB; kind++) {
            counted(kind, 1, 1, TYPE, 0);
        }
        counted(Maker.LESS, 1, 2, 0, 1);
        counted(Maker.LESS, 2, 2, 0, 0);
        counted(Maker.SAME, 2, 2, 0, 1);
        counted(Maker.SAME, 2, 1, 0, 0);
    }

    /** A pair of a known number of the type and a COUNT one. */
    private static void typed(int kind, int type, int a, int b, int error, long value) {
        Maker m = new Maker();
        int n = m.pair(kind, m.cast(m.number(a), type), m.number(b));
        m.function(0, 400, 400, 0, m.pair(Maker.SAME, n, n));
        String what = kind + " of " + a + " and " + b + " in " + type;
        if (error != 0) {
            m.fails(what, 0, 0, error, 0, n);
            return;
        }
        m.compiles(what, 0, 0, 1);
        Sheet.due(what + ": known", m.x.known(0, n), value);
        Sheet.due(what + ": type", m.x.typeOf(0, n), kind >= 11 ? 0 : type);
    }

    private static void knownInTypes() {
        typed(Maker.ADD, 8, 100, 27, 0, 127);
        typed(Maker.ADD, 8, 100, 28, RANGE, 0);
        typed(Maker.SUB, -8, 3, 3, 0, 0);
        typed(Maker.SUB, -8, 3, 4, RANGE, 0);
        typed(Maker.MUL, 8, -16, 8, 0, -128);
        typed(Maker.MUL, 8, 16, 8, RANGE, 0);
        typed(Maker.DIV, 8, -128, -1, RANGE, 0);
        typed(Maker.DIV, 8, 5, 0, DIVISION, 0);
        typed(Maker.DIV, 1, -1, -1, RANGE, 0);
        typed(Maker.WRAPADD, 8, 127, 1, 0, -128);
        typed(Maker.WRAPSUB, 8, -128, 1, 0, 127);
        typed(Maker.WRAPMUL, 8, 127, 127, 0, 1);
        typed(Maker.WRAPADD, -8, 255, 1, 0, 0);
        typed(Maker.WRAPSUB, -8, 0, 1, 0, 255);
        typed(Maker.WRAPMUL, -31, Maker.MAX, Maker.MAX, 0, 1);
        typed(Maker.WRAPADD, 1, -1, -1, 0, 0);
        typed(Maker.WRAPADD, -1, 1, 1, 0, 0);
        typed(Maker.CLAMPADD, 8, 100, 100, 0, 127);
        typed(Maker.CLAMPADD, 8, -100, -100, 0, -128);
        typed(Maker.CLAMPSUB, -8, 3, 4, 0, 0);
        typed(Maker.CLAMPSUB, 8, 3, 4, 0, -1);
        typed(Maker.CLAMPADD, 1, 0, 0, 0, 0);
        typed(Maker.LESS, 8, 3, 4, 0, 1);
        typed(Maker.SAME, 8, 3, 3, 0, 1);
        typed(Maker.SAME, 8, 3, 128, RANGE, 0);
        Maker m = new Maker();
        int n = m.pair(Maker.DIV, m.parameter(0), m.number(0));
        m.function(0, 8, 400, 8, n);
        m.compiles("DIV by a known 0 of what is not known", 0, 0, 1);
        Sheet.due("not known", m.x.known(0, n), StagedCompiler.NONE);
    }

    private static void ifs() {
        Maker m = new Maker();
        int n = m.choose(m.parameter(0), m.number(1), m.number(2));
        m.function(0, 0, 400, 8, n);
        m.fails("IF of two COUNTs", 0, 0, TYPE, 0, n);

        m = new Maker();
        n = m.choose(m.parameter(0), m.number(1), m.parameter(1));
        m.function(0, 0, -1, -1, n);
        m.compiles("IF of COUNT and INT", 0, 0, 1);
        Sheet.due("type", m.x.typeOf(0, n), -1);

        m = new Maker();
        n = m.choose(m.parameter(0), m.parameter(1), m.number(2));
        m.function(0, 0, -1, -1, n);
        m.fails("IF of INT and COUNT out of range", 0, 0, RANGE, 0, n);

        m = new Maker();
        n = m.choose(m.parameter(0), m.parameter(1), m.parameter(0));
        m.function(0, 0, 8, 8, n);
        m.fails("IF of INT and TRUTH", 0, 0, TYPE, 0, n);

        m = new Maker();
        n = m.choose(m.parameter(0), m.number(1), m.parameter(0));
        m.function(0, 0, 400, 0, n);
        m.fails("IF of COUNT and TRUTH", 0, 0, TYPE, 0, n);

        m = new Maker();
        n = m.choose(m.parameter(0), m.yes(), m.yes());
        m.function(0, 0, 400, 0, n);
        m.compiles("IF of two known TRUTHs", 0, 0, 1);
        Sheet.due("not known", m.x.known(0, n), StagedCompiler.NONE);
        Sheet.due("type", m.x.typeOf(0, n), 0);

        m = new Maker();
        n = m.choose(m.parameter(0), m.number(1), m.number(2));
        m.function(0, 8, 400, 8, n);
        m.fails("IF of an INT", 0, 0, TYPE, 0, n);

        m = new Maker();
        n = m.choose(m.number(1), m.number(1), m.number(2));
        m.function(0, 400, 400, 8, n);
        m.fails("IF of a COUNT", 0, 0, TYPE, 0, n);

        m = new Maker();
        int missing = m.parameter(1);
        m.function(0, 0, 400, 8, m.choose(m.parameter(0), m.number(1), missing));
        m.fails("c is looked at before b and c are fitted", 0, 0, TYPE, 0, missing);

        m = new Maker();
        int first = m.parameter(1);
        m.function(0, 0, 400, 8, m.choose(m.parameter(0), first, m.pair(Maker.DIV, m.number(1), m.number(0))));
        m.fails("b is looked at before c", 0, 0, TYPE, 0, first);
    }

    private static void casts() {
        Maker m = new Maker();
        int n = m.cast(m.parameter(0), 8);
        m.function(0, 0, 400, 8, n);
        m.fails("CAST of TRUTH", 0, 0, TYPE, 0, n);

        m = new Maker();
        n = m.cast(m.yes(), 100);
        m.function(0, 8, 400, 8, n);
        m.fails("TYPE comes before WIDTH", 0, 0, TYPE, 0, n);

        for (int code : new int[] {100, 101, 200, 201}) {
            castBy(code, 1, code < 200 ? 1 : -1);
            castBy(code, 31, code < 200 ? 31 : -31);
            castBy(code, 0, 0);
            castBy(code, 32, 0);
            castBy(code, -1, 0);
            castBy(code, Maker.MIN, 0);
            castBy(code, Maker.MAX, 0);
        }

        m = new Maker();
        n = m.cast(m.parameter(0), 101);
        m.function(0, 8, 8, 8, n);
        m.fails("by a parameter that is no COUNT", 5, 5, WIDTH, 0, n);

        m = new Maker();
        n = m.cast(m.number(500), 101);
        m.function(0, 300, 400, 8, n);
        m.fails("WIDTH comes before RANGE", 5, 5, WIDTH, 0, n);

        m = new Maker();
        n = m.cast(m.parameter(0), -3);
        m.function(0, 31, 400, -3, n);
        m.compiles("CAST of what is not known", 0, 0, 1);
        Sheet.due("type", m.x.typeOf(0, n), -3);
        Sheet.due("not known", m.x.known(0, n), StagedCompiler.NONE);

        m = new Maker();
        n = m.cast(m.cast(m.parameter(0), 8), -8);
        m.function(0, 300, 400, -8, n);
        m.compiles("CAST of known INT", 127, 0, 1);
        Sheet.due("known", m.x.known(0, n), 127);
        m.fails("out of the new range", -1, 0, RANGE, 0, n);
        m.fails("out of the inner range", 128, 0, RANGE, 0, n - 1);
    }

    private static void castBy(int code, int width, int type) {
        Maker m = new Maker();
        int n = m.cast(m.number(0), code);
        m.function(0, 300, 300, 0, m.pair(Maker.SAME, n, n));
        boolean first = code == 100 || code == 200;
        String what = "CAST by " + code + " with " + width;
        int v = first ? width : 40;
        int w = first ? 40 : width;
        if (type == 0) {
            m.fails(what, v, w, WIDTH, 0, n);
        } else {
            m.compiles(what, v, w, 1);
            Sheet.due(what, m.x.typeOf(0, n), type);
        }
    }

    private static void widths() {
        for (int w = 1; w <= 31; w++) {
            for (int type = -w; type <= w; type += 2 * w) {
                Maker m = new Maker();
                int n = m.width(m.parameter(0));
                m.function(0, type, 400, 8, n);
                m.compiles("WIDTH of " + type, 0, 0, 1);
                Sheet.due("known", m.x.known(0, n), w);
                Sheet.due("type", m.x.typeOf(0, n), 300);
            }
        }
        for (int type : new int[] {0, 300}) {
            Maker m = new Maker();
            int n = m.width(m.parameter(0));
            m.function(0, type, 400, 8, n);
            m.fails("WIDTH of " + type, 5, 0, TYPE, 0, n);
        }
    }

    private static void body(int first, int v, int result, int error) {
        Maker m = new Maker();
        m.number(77);
        int n = m.parameter(0);
        m.function(0, first, 400, result, n);
        String what = first + " " + v + " as a result " + result;
        if (error == 0) {
            m.compiles(what, v, 0, 1);
        } else {
            m.fails(what, v, 0, error, 0, n);
        }
    }

    private static void bodies() {
        body(8, 0, 8, 0);
        body(0, 0, 0, 0);
        body(-8, 0, 8, TYPE);
        body(8, 0, 9, TYPE);
        body(0, 0, 8, TYPE);
        body(8, 0, 0, TYPE);
        body(300, 1, 0, TYPE);
        body(300, 127, 8, 0);
        body(300, 128, 8, RANGE);
        body(300, -128, 8, 0);
        body(300, -129, 8, RANGE);
        body(300, -1, -8, RANGE);
        body(300, 255, -8, 0);
        body(300, 256, -8, RANGE);
        body(300, 7, 100, 0);
        body(300, 2, 100, RANGE);
        body(300, Maker.MAX, -31, 0);
    }

    private static void instanceWidth(int first, int second, int result, int v, int w, boolean good) {
        Maker m = new Maker();
        m.function(0, first, second, result, m.pair(Maker.SAME, m.number(0), m.number(0)));
        String what = first + " " + second + " " + result + " with " + v + " " + w;
        if (!good) {
            m.fails(what, v, w, WIDTH, 0, 63);
            return;
        }
        // the body is a TRUTH, so that any other result is a TYPE error: but no WIDTH
        Sheet.due(what, m.x.compile(0, v, w), result == 0 ? 1 : TYPE);
    }

    private static void instanceWidths() {
        for (int code : new int[] {100, 200}) {
            for (int v : new int[] {Maker.MIN, -1, 0, 1, 31, 32, Maker.MAX}) {
                boolean good = v == 1 || v == 31;
                instanceWidth(300, code, 0, v, 5, good);
                instanceWidth(300, 400, code, v, 5, good);
                instanceWidth(code + 1, 300, 0, 5, v, good);
                instanceWidth(400, 300, code + 1, 5, v, good);
            }
            instanceWidth(code, 300, 0, 5, 5, false);
            instanceWidth(code, 400, 0, 5, 5, false);
            instanceWidth(300, code + 1, 0, 5, 5, false);
            instanceWidth(8, code, 0, 5, 5, false);
            instanceWidth(8, 300, code, 5, 5, false);
            instanceWidth(0, 300, code, 5, 5, false);
            instanceWidth(400, 400, code, 5, 5, false);
            instanceWidth(300, code, code, 5, 5, true);
        }
    }

    private static void callErrors() {
        Maker m = new Maker();
        int n = m.call(1, -1, -1);
        m.function(0, 400, 400, 8, n);
        m.fails("CALL of what is not defined", 0, 0, CALL, 0, n);
        m.function(1, 400, 400, 8, m.number(5));
        m.compiles("when it is defined", 0, 0, 2);

        for (int first : new int[] {400, 300, 8, 0, 101}) {
            for (int second : new int[] {400, 300, 8, 0, 100}) {
                for (int given = 0; given < 4; given++) {
                    callGiven(first, second, given);
                }
            }
        }
    }

    /** Missing and needless arguments are found before the arguments are looked at. */
    private static void callGiven(int first, int second, int given) {
        boolean due = (given & 1) != 0 == (first != 400) && (given >> 1 != 0) == (second != 400);
        if (due) {
            return;
        }
        Maker m = new Maker();
        int bad = m.pair(Maker.DIV, m.number(1), m.number(0));
        int n = m.call(1, (given & 1) != 0 ? bad : -1, given >> 1 != 0 ? bad : -1);
        m.function(0, 400, 400, 8, n);
        m.function(1, first, second, 8, bad);
        m.fails("CALL of " + first + " " + second + " given " + given, 0, 0, CALL, 0, n);
    }

    /** Function 1 has the code as its first parameter; the argument is function 0's second one. */
    private static void argument(int code, int type, int w, int error) {
        Maker m = new Maker();
        int n = m.call(1, m.parameter(1), m.number(4));
        m.function(0, 400, type, 0, n);
        m.function(1, code, 300, 0, m.pair(Maker.SAME, m.number(0), m.number(0)));
        String what = "argument " + type + " " + w + " for " + code;
        if (error == 0) {
            m.compiles(what, 0, w, 2);
            Sheet.due(what + ": type", m.x.typeOf(0, n), 0);
            Sheet.due(what + ": not known", m.x.known(0, n), StagedCompiler.NONE);
        } else {
            m.fails(what, 0, w, error, 0, n);
        }
    }

    private static void callArguments() {
        argument(8, 8, 0, 0);
        argument(8, 300, 127, 0);
        argument(8, 300, 128, RANGE);
        argument(-8, 300, 255, 0);
        argument(-8, 300, -1, RANGE);
        argument(8, 9, 0, TYPE);
        argument(8, -8, 0, TYPE);
        argument(8, 0, 0, TYPE);
        argument(0, 0, 0, 0);
        argument(0, 8, 0, TYPE);
        argument(0, 300, 1, TYPE);
        argument(0, 300, 0, TYPE);
        argument(0, 300, 2, TYPE);
        argument(300, 300, 9, 0);
        argument(300, 8, 0, TYPE);
        argument(300, 0, 0, TYPE);
        argument(101, 4, 0, 0);
        argument(101, 5, 0, TYPE);
        argument(101, 300, 7, 0);
        argument(101, 300, 8, RANGE);
        argument(201, -4, 0, 0);
        argument(201, 300, 15, 0);
        argument(201, 300, 16, RANGE);
        argument(100, 8, 0, WIDTH);
    }

    private static void callOrder() {
        Maker m = new Maker();
        int first = m.pair(Maker.DIV, m.number(1), m.number(0));
        int second = m.parameter(1);
        m.function(0, 8, 400, 8, m.call(1, first, second));
        m.function(1, 8, 8, 8, first);
        m.fails("the first argument is looked at first", 0, 0, DIVISION, 0, first);

        m = new Maker();
        int n = m.call(1, m.number(500), m.parameter(0));
        m.function(0, 8, 400, 8, n);
        m.function(1, 8, 300, 8, m.parameter(0));
        m.fails("a COUNT parameter's TYPE comes before the first argument's RANGE", 0, 0, TYPE, 0, n);

        m = new Maker();
        n = m.call(1, m.number(500), m.number(32));
        m.function(0, 8, 400, 8, n);
        m.function(1, 101, 300, 8, m.parameter(0));
        m.fails("WIDTH comes before the first argument's RANGE", 0, 0, WIDTH, 0, n);

        m = new Maker();
        n = m.call(1, m.number(500), m.parameter(0));
        m.function(0, 8, 400, 8, n);
        m.function(1, 8, 9, 8, m.parameter(0));
        m.fails("the first argument's RANGE before the second's TYPE", 0, 0, RANGE, 0, n);

        m = new Maker();
        n = m.call(1, m.parameter(0), m.number(500));
        m.function(0, 8, 400, 8, n);
        m.function(1, 9, 8, 8, m.parameter(0));
        m.fails("the first argument's TYPE before the second's RANGE", 0, 0, TYPE, 0, n);
    }

    /** Instances are numbered as they come to be, and the first to come is compiled first. */
    private static void instancesInOrder() {
        Maker m = new Maker();
        int two = m.call(2, -1, -1);
        int one = m.call(1, m.number(3), -1);
        int three = m.call(3, -1, -1);
        m.function(0, 400, 400, 8, m.pair(Maker.ADD, two, m.pair(Maker.ADD, one, three)));
        m.function(2, 400, 400, 8, m.call(1, m.number(4), -1));
        m.function(1, 300, 400, 8, m.call(3, -1, -1));
        m.function(3, 400, 400, 8, m.number(1));
        m.compiles("in order", 0, 0, 5);
        int[] functions = {0, 2, 1, 3, 1};
        for (int i = 0; i < 5; i++) {
            Sheet.due("function of " + i, m.x.functionOf(i), functions[i]);
        }
        Sheet.due("count of 2", m.x.countOf(2, 0), 3);
        Sheet.due("count of 4", m.x.countOf(4, 0), 4);

        m = new Maker();
        int early = m.number(500);
        int late = m.pair(Maker.DIV, m.number(1), m.number(0));
        m.function(0, 400, 400, 8, m.pair(Maker.ADD, m.call(1, -1, -1), m.call(2, -1, -1)));
        m.function(1, 400, 400, 8, early);
        m.function(2, 400, 400, 8, late);
        m.fails("the earlier instance's error", 0, 0, RANGE, 1, early);
    }

    private static void oneInstanceForEachSet() {
        Maker m = new Maker();
        int p = m.parameter(0);
        int a = m.call(1, m.number(3), p);
        int b = m.call(1, m.pair(Maker.ADD, m.number(1), m.number(2)), m.number(9));
        int c = m.call(1, m.number(4), p);
        m.function(0, 8, 400, 8, m.pair(Maker.ADD, a, m.pair(Maker.ADD, b, c)));
        m.function(1, 300, 8, 8, m.pair(Maker.ADD, m.parameter(0), m.parameter(1)));
        m.compiles("by COUNT values alone", 0, 0, 3);
        Sheet.due("run", m.x.run(0, 10, 0), 13 + 12 + 14);

        m = new Maker();
        a = m.call(1, m.number(3), m.number(4));
        b = m.call(1, m.number(4), m.number(3));
        c = m.call(2, m.number(3), m.number(4));
        m.function(0, 400, 400, 8, m.pair(Maker.ADD, a, m.pair(Maker.ADD, b, c)));
        m.function(1, 300, 300, 8, m.pair(Maker.SUB, m.parameter(0), m.parameter(1)));
        m.function(2, 300, 300, 8, m.parameter(1));
        m.compiles("both values and the function count", 0, 0, 4);

        m = new Maker();
        m.function(0, 300, 300, 8, m.call(0, m.parameter(0), m.parameter(1)));
        m.compiles("the instance itself", 1, 2, 1);
        m = new Maker();
        m.function(0, 300, 300, 8, m.call(0, m.parameter(1), m.parameter(0)));
        m.compiles("its mirror", 1, 2, 2);
        m.compiles("its own mirror", 2, 2, 1);
    }

    /** Function 0 calls itself with one less, down to 0. */
    private static Maker countdown() {
        Maker m = new Maker();
        int p = m.parameter(0);
        int next = m.call(0, m.pair(Maker.SUB, p, m.number(1)), -1);
        m.function(0, 300, 400, 8, m.choose(m.pair(Maker.LESS, p, m.number(1)), m.number(7), next));
        return m;
    }

    private static void quota() {
        Maker m = countdown();
        m.compiles("20 instances", 19, 0, 20);
        Sheet.due("the last", m.x.countOf(19, 0), 0);
        Sheet.due("no more", m.x.functionOf(20), -1);
        m.fails("21 instances", 20, 0, QUOTA, 0, 3);
        m.fails("many instances", Maker.MAX, 0, QUOTA, 0, 3);
        m.compiles("20 instances again", 19, 0, 20);
        m.compiles("one", -5, 0, 1);
    }

    /** With 20 instances there, one more is QUOTA although its width is bad; one that is there is fine. */
    private static void quotaBeforeWidth() {
        for (int last : new int[] {1, 20, 0, 21}) {
            Maker m = new Maker();
            int p = m.parameter(0);
            int zero = m.number(0);
            int isLast = m.pair(Maker.LESS, m.number(19), p);
            int next = m.call(0, m.pair(Maker.ADD, p, m.number(1)), zero);
            int end = m.call(0, m.number(last), zero);
            m.function(0, 300, 100, 8, m.choose(isLast, end, next));
            if (last == 0 || last == 21) {
                m.fails("QUOTA, not WIDTH, with " + last, 1, 0, QUOTA, 0, end);
                m.fails("WIDTH, as there are fewer", 32, 0, WIDTH, 0, 63);
            } else {
                m.compiles("20, the last calls " + last, 1, 0, 20);
            }
        }
    }

    private static void greatCounts() {
        Maker m = new Maker();
        int great = m.greatest();
        int n = m.call(1, great, m.number(Maker.MIN));
        m.function(0, 400, 400, 0, n);
        m.function(1, 300, 300, 0, m.pair(Maker.LESS, m.parameter(0), m.parameter(1)));
        m.compiles("2^31 as a COUNT parameter", 0, 0, 2);
        Sheet.due("2^31", m.x.countOf(1, 0), Maker.TWO_31);
        Sheet.due("-2^31 is another", m.x.countOf(1, 1), Maker.MIN);
        Sheet.due("run", m.x.run(0, 0, 0), 0);

        m = new Maker();
        great = m.greatest();
        m.function(0, 400, 400, -31, great);
        m.fails("2^31 is no UNSIGNED 31", 0, 0, RANGE, 0, great);
    }

    private static void untakenIsUnlookedAt() {
        for (int taken = 0; taken < 2; taken++) {
            Maker m = new Maker();
            int five = m.number(5);
            int undefined = m.call(7, -1, -1);
            int condition = taken == 1 ? m.yes() : m.no();
            int n = m.choose(condition, taken == 1 ? five : undefined, taken == 1 ? undefined : five);
            m.function(0, 400, 400, 8, n);
            m.compiles("untaken", 0, 0, 1);
            Sheet.due("type as the taken one's", m.x.typeOf(0, n), 300);
            Sheet.due("known as the taken one's", m.x.known(0, n), 5);
            Sheet.due("not looked at", m.x.typeOf(0, undefined), 400);
        }
        Maker m = new Maker();
        int five = m.number(5);
        int undefined = m.call(7, -1, -1);
        m.function(0, 400, 400, 8, m.choose(m.no(), five, undefined));
        m.fails("taken", 0, 0, CALL, 0, undefined);
    }

    /** A CALL that stands in many places of a body wants its instance once. */
    private static void lookedAtOnce() {
        Maker m = new Maker();
        int n = m.call(1, m.parameter(0), -1);
        for (int i = 0; i < 6; i++) {
            n = m.pair(Maker.WRAPADD, n, n);
        }
        m.function(0, 8, 400, 8, n);
        m.function(1, 8, 400, 8, m.parameter(0));
        m.compiles("shared nodes", 0, 0, 2);
        Sheet.due("size", m.x.size(0), 7);
        Sheet.due("run", m.x.run(0, 3, 0), -64);
    }
}
