/** Promise 11, ARITHMETIC: kinds 2 .. 12 in full for small types, and at the ends of great ones. */
public final class Promise11ArithmeticTest {
    private static final long OVERFLOW = StagedCompiler.OVERFLOW;
    private static final long BY_ZERO = StagedCompiler.BY_ZERO;
    private static final int[] SMALL = {1, 2, 3, 4, -1, -2, -3, -4};
    private static final int[] GREAT = {8, 16, 30, 31, -8, -16, -30, -31};

    public static void main(String[] args) {
        Sheet.test("Promise 11: ADD out of the range: OVERFLOW", () -> inEachType(Maker.ADD));
        Sheet.test("Promise 11: SUB out of the range: OVERFLOW", () -> inEachType(Maker.SUB));
        Sheet.test("Promise 11: MUL out of the range: OVERFLOW", () -> inEachType(Maker.MUL));
        Sheet.test("Promise 11: DIV truncates, least by -1: OVERFLOW, by 0: BY_ZERO",
            () -> inEachType(Maker.DIV));
        Sheet.test("Promise 11: WRAPADD wraps around", () -> inEachType(Maker.WRAPADD));
        Sheet.test("Promise 11: WRAPSUB wraps around", () -> inEachType(Maker.WRAPSUB));
        Sheet.test("Promise 11: WRAPMUL wraps around", () -> inEachType(Maker.WRAPMUL));
        Sheet.test("Promise 11: CLAMPADD stays at the end of the range", () -> inEachType(Maker.CLAMPADD));
        Sheet.test("Promise 11: CLAMPSUB stays at the end of the range", () -> inEachType(Maker.CLAMPSUB));
        Sheet.test("Promise 11: LESS: 1 or 0", () -> inEachType(Maker.LESS));
        Sheet.test("Promise 11: SAME: 1 or 0", () -> inEachType(Maker.SAME));
        Sheet.test("Promise 11: the ends of every type", Promise11ArithmeticTest::endsOfEveryType);
        Sheet.test("Promise 11: division by 0: BY_ZERO", Promise11ArithmeticTest::byZero);
        Sheet.test("Promise 11: a COUNT operand is of the other's type", Promise11ArithmeticTest::withCount);
        Sheet.finish();
    }

    private static Maker ofPair(int kind, int type) {
        Maker m = new Maker();
        m.function(0, type, type, kind >= Maker.LESS ? 0 : type, m.pair(kind, m.parameter(0), m.parameter(1)));
        m.compiles("kind " + kind + " in " + type, 0, 0, 1);
        return m;
    }

    private static void pairIsAsDue(Maker m, int kind, int type, int a, int b) {
        Sheet.due(a + " kind " + kind + " " + b + " in " + type, m.x.run(0, a, b), due(kind, type, a, b));
    }

    private static void inEachType(int kind) {
        for (int type : SMALL) {
            Maker m = ofPair(kind, type);
            for (int a = (int) Maker.low(type); a <= Maker.high(type); a++) {
                for (int b = (int) Maker.low(type); b <= Maker.high(type); b++) {
                    pairIsAsDue(m, kind, type, a, b);
                }
            }
        }
        for (int type : GREAT) {
            Maker m = ofPair(kind, type);
            int lo = (int) Maker.low(type);
            int hi = (int) Maker.high(type);
            int[] asked = {lo, lo + 1, lo / 2, type > 0 ? -1 : 0, 0, 1, 3, hi / 2, hi - 1, hi};
            for (int a : asked) {
                for (int b : asked) {
                    pairIsAsDue(m, kind, type, a, b);
                }
            }
        }
    }

    /** ARITHMETIC told by comparing and by a remainder, not as the class does it. */
    private static long due(int kind, int type, long a, long b) {
        if (kind == Maker.LESS) {
            return a < b ? 1 : 0;
        }
        if (kind == Maker.SAME) {
            return a == b ? 1 : 0;
        }
        if (kind == Maker.DIV && b == 0) {
            return BY_ZERO;
        }
        long exact = kind == Maker.DIV ? a / b
            : kind == Maker.MUL || kind == Maker.WRAPMUL ? a * b
            : kind == Maker.ADD || kind == Maker.WRAPADD || kind == Maker.CLAMPADD ? a + b : a - b;
        long lo = Maker.low(type);
        long hi = Maker.high(type);
        if (kind >= Maker.CLAMPADD) {
            return exact < lo ? lo : exact > hi ? hi : exact;
        }
        if (kind >= Maker.WRAPADD) {
            return lo + Math.floorMod(exact - lo, hi - lo + 1);
        }
        return exact < lo || exact > hi ? OVERFLOW : exact;
    }

    private static void end(int kind, int type, long a, long b, long due) {
        Sheet.due(a + " kind " + kind + " " + b + " in " + type, ofPair(kind, type).x.run(0, (int) a, (int) b), due);
    }

    private static void endsOfEveryType() {
        for (int w = 2; w <= 31; w++) {
            for (int type = -w; type <= w; type += 2 * w) {
                long lo = Maker.low(type);
                long hi = Maker.high(type);
                end(Maker.ADD, type, hi - 1, 1, hi);
                end(Maker.ADD, type, hi, 1, OVERFLOW);
                end(Maker.SUB, type, lo + 1, 1, lo);
                end(Maker.SUB, type, lo, 1, OVERFLOW);
                end(Maker.WRAPADD, type, hi, 1, lo);
                end(Maker.WRAPSUB, type, lo, 1, hi);
                end(Maker.CLAMPADD, type, hi, 1, hi);
                end(Maker.CLAMPSUB, type, lo, 1, lo);
            }
        }
    }

    private static void byZero() {
        for (int type : new int[] {1, 8, 31, -1, -8, -31}) {
            Maker m = ofPair(Maker.DIV, type);
            Sheet.due("least", m.x.run(0, (int) Maker.low(type), 0), BY_ZERO);
            Sheet.due("greatest", m.x.run(0, (int) Maker.high(type), 0), BY_ZERO);
            Sheet.due("0", m.x.run(0, 0, 0), BY_ZERO);
        }
        Maker m = new Maker();
        m.function(0, 8, 300, 8, m.pair(Maker.DIV, m.parameter(0), m.parameter(1)));
        m.compiles("by a KNOWN 0", 0, 0, 1);
        Sheet.due("by a KNOWN 0", m.x.run(0, 1, 0), BY_ZERO);
    }

    private static void withCount() {
        Maker m = new Maker();
        m.function(0, 300, 8, 8, m.pair(Maker.SUB, m.parameter(0), m.parameter(1)));
        m.compiles("COUNT before", 100, 0, 1);
        Sheet.due("100 - -27", m.x.run(0, 0, -27), 127);
        Sheet.due("100 - -28", m.x.run(0, 0, -28), OVERFLOW);
        m = new Maker();
        m.function(0, -4, 300, -4, m.pair(Maker.WRAPADD, m.parameter(0), m.parameter(1)));
        m.compiles("COUNT behind", 0, 9, 1);
        Sheet.due("6 + 9", m.x.run(0, 6, 0), 15);
        Sheet.due("7 + 9", m.x.run(0, 7, 0), 0);
    }
}
