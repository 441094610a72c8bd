/** Promise 4, both operands KNOWN: ARITHMETIC at the ends of the ranges, and its errors. */
public final class Promise04KnownTest {
    private static final int RANGE = StagedCompiler.RANGE;
    private static final int DIVISION = StagedCompiler.DIVISION;

    public static void main(String[] args) {
        Sheet.test("Promise 4: COUNT above 2^31: RANGE", Promise04KnownTest::aboveCount);
        Sheet.test("Promise 4: COUNT below -2^31: RANGE", Promise04KnownTest::belowCount);
        Sheet.test("Promise 4: KNOWN above an INT type's range: RANGE", Promise04KnownTest::aboveRange);
        Sheet.test("Promise 4: KNOWN below an INT type's range: RANGE", Promise04KnownTest::belowRange);
        Sheet.test("Promise 4: DIV by 0: DIVISION", Promise04KnownTest::byZero);
        Sheet.test("Promise 4: DIV by a KNOWN 0 of what is not KNOWN: no error", Promise04KnownTest::notKnown);
        Sheet.test("Promise 4: DIV truncates", Promise04KnownTest::truncates);
        Sheet.test("Promise 4: WRAP.. of KNOWN: by a multiple of 2^w into the range", Promise04KnownTest::wraps);
        Sheet.test("Promise 4: CLAMP.. of KNOWN: the end beyond which it is", Promise04KnownTest::clamps);
        Sheet.test("Promise 4: LESS and SAME of KNOWN: 1 or 0", Promise04KnownTest::compares);
        Sheet.finish();
    }

    private static void finds(Maker m, String what, int n, int error, long value) {
        m.looksAt(n);
        m.answers(what, 0, 0, error, n, 1);
        if (error == 0) {
            Sheet.due(what + ": known", m.x.known(0, n), value);
        }
    }

    private static void counted(int kind, long a, long b, int error, long value) {
        Maker m = new Maker();
        int left = a == Maker.TWO_31 ? m.greatest() : m.number((int) a);
        int right = b == Maker.TWO_31 ? m.greatest() : m.number((int) b);
        int n = m.pair(kind, left, right);
        finds(m, kind + " of " + a + " and " + b, n, error, value);
    }

    /** A KNOWN number of the type with another, and with a COUNT on either side. */
    private static void typed(int kind, int type, int a, int b, int error, long value) {
        for (int casts = 1; casts < 4; casts++) {
            Maker m = new Maker();
            int left = (casts & 1) != 0 ? m.cast(m.number(a), type) : m.number(a);
            int right = (casts & 2) != 0 ? m.cast(m.number(b), type) : m.number(b);
            int n = m.pair(kind, left, right);
            finds(m, kind + " of " + a + " and " + b + " in " + type, n, error, value);
            if (error == 0) {
                Sheet.due("type", m.x.typeOf(0, n), kind >= Maker.LESS ? 0 : type);
            }
        }
    }

    private static void aboveCount() {
        counted(Maker.ADD, Maker.MAX, 1, 0, Maker.TWO_31);
        counted(Maker.ADD, Maker.MAX, 2, RANGE, 0);
        counted(Maker.ADD, Maker.TWO_31, 1, RANGE, 0);
        counted(Maker.ADD, Maker.TWO_31, Maker.TWO_31, RANGE, 0);
        counted(Maker.SUB, 0, Maker.MIN, 0, Maker.TWO_31);
        counted(Maker.SUB, 1, Maker.MIN, RANGE, 0);
        counted(Maker.SUB, Maker.TWO_31, -1, RANGE, 0);
        counted(Maker.MUL, 65536, 32768, 0, Maker.TWO_31);
        counted(Maker.MUL, 65536, 65536, RANGE, 0);
        counted(Maker.MUL, Maker.MIN, Maker.MIN, RANGE, 0);
        counted(Maker.MUL, Maker.TWO_31, Maker.TWO_31, RANGE, 0);
        counted(Maker.MUL, Maker.MIN, -1, 0, Maker.TWO_31);
        counted(Maker.DIV, Maker.MIN, -1, 0, Maker.TWO_31);
        counted(Maker.DIV, Maker.TWO_31, 1, 0, Maker.TWO_31);
    }

    private static void belowCount() {
        counted(Maker.ADD, Maker.MIN, 0, 0, -Maker.TWO_31);
        counted(Maker.ADD, Maker.MIN, -1, RANGE, 0);
        counted(Maker.SUB, Maker.MIN, 0, 0, -Maker.TWO_31);
        counted(Maker.SUB, Maker.MIN, 1, RANGE, 0);
        counted(Maker.SUB, 0, Maker.TWO_31, 0, -Maker.TWO_31);
        counted(Maker.SUB, -1, Maker.TWO_31, RANGE, 0);
        counted(Maker.SUB, Maker.MIN, Maker.TWO_31, RANGE, 0);
        counted(Maker.MUL, 65536, -32768, 0, -Maker.TWO_31);
        counted(Maker.MUL, 65537, -32768, RANGE, 0);
        counted(Maker.MUL, Maker.MIN, Maker.TWO_31, RANGE, 0);
        counted(Maker.MUL, Maker.TWO_31, -1, 0, -Maker.TWO_31);
        counted(Maker.DIV, Maker.TWO_31, -1, 0, -Maker.TWO_31);
    }

    private static void aboveRange() {
        typed(Maker.ADD, 8, 100, 27, 0, 127);
        typed(Maker.ADD, 8, 100, 28, RANGE, 0);
        typed(Maker.ADD, -8, 200, 55, 0, 255);
        typed(Maker.ADD, -8, 200, 56, RANGE, 0);
        typed(Maker.ADD, -31, Maker.MAX, 0, 0, Maker.MAX);
        typed(Maker.ADD, -31, Maker.MAX, 1, RANGE, 0);
        typed(Maker.ADD, -1, 1, 1, RANGE, 0);
        typed(Maker.SUB, 8, 100, -27, 0, 127);
        typed(Maker.SUB, 8, 100, -28, RANGE, 0);
        typed(Maker.SUB, 1, 0, -1, RANGE, 0);
        typed(Maker.MUL, 8, 127, 1, 0, 127);
        typed(Maker.MUL, 8, 16, 8, RANGE, 0);
        typed(Maker.MUL, -31, Maker.MAX, Maker.MAX, RANGE, 0);
        typed(Maker.DIV, 8, -127, -1, 0, 127);
        typed(Maker.DIV, 8, -128, -1, RANGE, 0);
        typed(Maker.DIV, 1, -1, -1, RANGE, 0);
    }

    private static void belowRange() {
        typed(Maker.ADD, 8, -100, -28, 0, -128);
        typed(Maker.ADD, 8, -100, -29, RANGE, 0);
        typed(Maker.ADD, 1, -1, -1, RANGE, 0);
        typed(Maker.SUB, 8, -100, 28, 0, -128);
        typed(Maker.SUB, 8, -100, 29, RANGE, 0);
        typed(Maker.SUB, -8, 3, 3, 0, 0);
        typed(Maker.SUB, -8, 3, 4, RANGE, 0);
        typed(Maker.SUB, -31, 0, Maker.MAX, RANGE, 0);
        typed(Maker.MUL, 8, -16, 8, 0, -128);
        typed(Maker.MUL, 8, -43, 3, RANGE, 0);
        typed(Maker.MUL, 31, -32768, 32768, 0, -(1L << 30));
        typed(Maker.MUL, 31, -32769, 32768, RANGE, 0);
    }

    private static void byZero() {
        for (int a : new int[] {Maker.MIN, -5, 0, 5, Maker.MAX}) {
            counted(Maker.DIV, a, 0, DIVISION, 0);
        }
        counted(Maker.DIV, Maker.TWO_31, 0, DIVISION, 0);
        counted(Maker.DIV, 0, 5, 0, 0);
        typed(Maker.DIV, 8, 5, 0, DIVISION, 0);
        typed(Maker.DIV, 8, 0, 0, DIVISION, 0);
        typed(Maker.DIV, 8, -128, 0, DIVISION, 0);
        typed(Maker.DIV, -31, Maker.MAX, 0, DIVISION, 0);
    }

    private static void notKnown() {
        Maker m = new Maker();
        int n = m.pair(Maker.DIV, m.parameter(0), m.number(0));
        m.function(0, 8, 400, 8, n);
        m.compiles("DIV", 0, 0, 1);
        Sheet.due("not known", m.x.known(0, n), StagedCompiler.NONE);
    }

    private static void truncates() {
        for (int a : new int[] {-7, 7}) {
            for (int b : new int[] {-2, 2}) {
                counted(Maker.DIV, a, b, 0, (a < 0) == (b < 0) ? 3 : -3);
                typed(Maker.DIV, 8, a, b, 0, (a < 0) == (b < 0) ? 3 : -3);
            }
        }
        counted(Maker.DIV, -1, 2, 0, 0);
        counted(Maker.DIV, -1, Maker.TWO_31, 0, 0);
        typed(Maker.DIV, 8, -1, 2, 0, 0);
        typed(Maker.DIV, -8, 255, 2, 0, 127);
    }

    private static void wraps() {
        typed(Maker.WRAPADD, 8, 127, 1, 0, -128);
        typed(Maker.WRAPADD, 8, -128, -1, 0, 127);
        typed(Maker.WRAPADD, -8, 255, 1, 0, 0);
        typed(Maker.WRAPADD, -8, 255, 255, 0, 254);
        typed(Maker.WRAPADD, 1, -1, -1, 0, 0);
        typed(Maker.WRAPADD, -1, 1, 1, 0, 0);
        typed(Maker.WRAPADD, -31, Maker.MAX, 1, 0, 0);
        typed(Maker.WRAPSUB, 8, -128, 1, 0, 127);
        typed(Maker.WRAPSUB, 8, 127, -1, 0, -128);
        typed(Maker.WRAPSUB, -8, 0, 1, 0, 255);
        typed(Maker.WRAPSUB, 1, 0, -1, 0, -1);
        typed(Maker.WRAPSUB, -31, 0, 1, 0, Maker.MAX);
        typed(Maker.WRAPMUL, 8, 127, 127, 0, 1);
        typed(Maker.WRAPMUL, 8, 16, 8, 0, -128);
        typed(Maker.WRAPMUL, 1, -1, -1, 0, -1);
        typed(Maker.WRAPMUL, -8, 16, 16, 0, 0);
        typed(Maker.WRAPMUL, -31, Maker.MAX, Maker.MAX, 0, 1);
        typed(Maker.WRAPMUL, 31, -(1 << 30), -(1 << 30), 0, 0);
        typed(Maker.WRAPMUL, 31, -(1 << 30), 1, 0, -(1L << 30));
    }

    private static void clamps() {
        typed(Maker.CLAMPADD, 8, 100, 27, 0, 127);
        typed(Maker.CLAMPADD, 8, 100, 28, 0, 127);
        typed(Maker.CLAMPADD, 8, -100, -29, 0, -128);
        typed(Maker.CLAMPADD, -8, 200, 200, 0, 255);
        typed(Maker.CLAMPADD, 1, -1, -1, 0, -1);
        typed(Maker.CLAMPADD, -31, Maker.MAX, Maker.MAX, 0, Maker.MAX);
        typed(Maker.CLAMPSUB, -8, 3, 4, 0, 0);
        typed(Maker.CLAMPSUB, 8, 3, 4, 0, -1);
        typed(Maker.CLAMPSUB, 8, 127, -128, 0, 127);
        typed(Maker.CLAMPSUB, 8, -128, 127, 0, -128);
        typed(Maker.CLAMPSUB, 1, 0, -1, 0, 0);
    }

    private static void compares() {
        counted(Maker.LESS, 1, 2, 0, 1);
        counted(Maker.LESS, 2, 2, 0, 0);
        counted(Maker.LESS, Maker.TWO_31, Maker.MIN, 0, 0);
        counted(Maker.LESS, Maker.MIN, Maker.TWO_31, 0, 1);
        counted(Maker.SAME, 2, 2, 0, 1);
        counted(Maker.SAME, 2, 1, 0, 0);
        counted(Maker.SAME, Maker.TWO_31, Maker.MIN, 0, 0);
        typed(Maker.LESS, 8, -3, 4, 0, 1);
        typed(Maker.LESS, 8, 4, 4, 0, 0);
        typed(Maker.SAME, 8, 3, 3, 0, 1);
        typed(Maker.SAME, 8, 3, -3, 0, 0);
    }
}
