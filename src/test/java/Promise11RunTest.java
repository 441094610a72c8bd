/** Promise 11: run. */
public final class Promise11RunTest {
    private static final long NONE = StagedCompiler.NONE;
    private static final long OVERFLOW = StagedCompiler.OVERFLOW;
    private static final long BY_ZERO = StagedCompiler.BY_ZERO;
    private static final long DEPTH = StagedCompiler.DEPTH;

    public static void main(String[] args) {
        argumentsOfEachType();
        argumentsNotLookedAt();
        noSuchInstance();
        smallTypesInFull();
        greatTypes();
        knownBesideArgument();
        truths();
        ifs();
        casts();
        calls();
        trapOrder();
        depth();
        depthBeforeArguments();
        callsInArguments();
        readme();
        Sheet.finish();
    }

    static long low(int type) {
        return type > 0 ? -(1L << (type - 1)) : 0;
    }

    static long high(int type) {
        return type > 0 ? (1L << (type - 1)) - 1 : type == 0 ? 1 : (1L << -type) - 1;
    }

    private static void argumentsOfEachType() {
        for (int type = -31; type <= 31; type++) {
            for (int k = 0; k < 2; k++) {
                Maker m = new Maker();
                m.function(0, k == 0 ? type : 400, k == 1 ? type : 300, type, m.parameter(k));
                m.compiles("type " + type, 5, 5, 1);
                long[] asked = {low(type), high(type), low(type) - 1, high(type) + 1, Maker.MIN, Maker.MAX};
                for (long argument : asked) {
                    if (argument < Maker.MIN || argument > Maker.MAX) {
                        continue;
                    }
                    int a = (int) argument;
                    boolean good = argument >= low(type) && argument <= high(type);
                    long got = k == 0 ? m.x.run(0, a, Maker.MIN) : m.x.run(0, Maker.MAX, a);
                    Sheet.due(argument + " for parameter " + k + " of " + type, got, good ? a : NONE);
                }
            }
        }
    }

    private static void argumentsNotLookedAt() {
        Maker m = new Maker();
        m.function(0, 300, 400, 8, m.parameter(0));
        m.compiles("COUNT and none", 5, 0, 1);
        Sheet.due("wild arguments", m.x.run(0, Maker.MIN, Maker.MAX), 5);
        Sheet.due("another number for a COUNT parameter", m.x.run(0, 6, 0), 5);
        m = new Maker();
        m.function(0, 8, 8, 8, m.number(1));
        m.compiles("unused parameters", 0, 0, 1);
        Sheet.due("are looked at: first", m.x.run(0, 128, 0), NONE);
        Sheet.due("are looked at: second", m.x.run(0, 0, -129), NONE);
        Sheet.due("good", m.x.run(0, 127, -128), 1);
        m = new Maker();
        m.function(0, 300, 200, 200, m.parameter(1));
        m.compiles("by a COUNT parameter", 3, 0, 1);
        Sheet.due("in its range", m.x.run(0, 99, 7), 7);
        Sheet.due("out of it", m.x.run(0, 99, 8), NONE);
    }

    private static void noSuchInstance() {
        Maker m = new Maker();
        m.function(0, 400, 400, 8, m.number(1));
        Sheet.due("before compile", m.x.run(0, 0, 0), NONE);
        m.compiles("one", 0, 0, 1);
        Sheet.due("there", m.x.run(0, 0, 0), 1);
        for (int bad : new int[] {Maker.MIN, -1, 1, 19, 20, Maker.MAX}) {
            Sheet.due("instance " + bad, m.x.run(bad, 0, 0), NONE);
        }
    }

    private static Maker ofPair(int kind, int type) {
        Maker m = new Maker();
        m.function(0, type, type, kind >= Maker.LESS ? 0 : type, m.pair(kind, m.parameter(0), m.parameter(1)));
        m.compiles("kind " + kind + " in " + type, 0, 0, 1);
        return m;
    }

    private static void pairIsAsDue(Maker m, int kind, int type, int a, int b) {
        Sheet.due(a + " kind " + kind + " " + b + " in " + type, m.x.run(0, a, b), due(kind, type, a, b));
    }

    private static void smallTypesInFull() {
        for (int kind = Maker.ADD; kind <= Maker.SAME; kind++) {
            for (int type : new int[] {1, 2, 3, 4, -1, -2, -3, -4}) {
                Maker m = ofPair(kind, type);
                for (int a = (int) low(type); a <= high(type); a++) {
                    for (int b = (int) low(type); b <= high(type); b++) {
                        pairIsAsDue(m, kind, type, a, b);
                    }
                }
            }
        }
    }

    private static void greatTypes() {
        for (int kind = Maker.ADD; kind <= Maker.SAME; kind++) {
            for (int type : new int[] {8, 16, 30, 31, -8, -16, -30, -31}) {
                Maker m = ofPair(kind, type);
                int lo = (int) low(type);
                int hi = (int) high(type);
                int[] asked = {lo, lo + 1, lo / 2, type > 0 ? -1 : 0, 0, 1, 3, hi / 2, hi - 1, hi};
                for (int a : asked) {
                    for (int b : asked) {
                        pairIsAsDue(m, kind, type, a, b);
                    }
                }
            }
        }
    }

    /** ARITHMETIC told by stepping and by comparing, not as the class does it. */
    private static long due(int kind, int type, long a, long b) {
        if (kind == Maker.LESS) {
            return a < b ? 1 : 0;
        }
        if (kind == Maker.SAME) {
            return a == b ? 1 : 0;
        }
        if (kind == Maker.DIV && b == 0) {
            return BY_ZERO;
        }
        long exact = kind == Maker.DIV ? a / b
            : kind == Maker.MUL || kind == Maker.WRAPMUL ? a * b
            : kind == Maker.ADD || kind == Maker.WRAPADD || kind == Maker.CLAMPADD ? a + b : a - b;
        long lo = low(type);
        long hi = high(type);
        if (kind >= Maker.CLAMPADD) {
            return exact < lo ? lo : exact > hi ? hi : exact;
        }
        if (kind >= Maker.WRAPADD) {
            return lo + Math.floorMod(exact - lo, hi - lo + 1);
        }
        return exact < lo || exact > hi ? OVERFLOW : exact;
    }

    private static void knownBesideArgument() {
        Maker m = new Maker();
        m.function(0, 300, 8, 8, m.pair(Maker.SUB, m.parameter(0), m.parameter(1)));
        m.compiles("COUNT before", 100, 0, 1);
        Sheet.due("100 - 27", m.x.run(0, 0, 27), 73);
        Sheet.due("100 - -28", m.x.run(0, 0, -28), OVERFLOW);
        m = new Maker();
        m.function(0, 8, 300, 8, m.pair(Maker.DIV, m.parameter(0), m.parameter(1)));
        m.compiles("COUNT 0 behind", 0, 0, 1);
        Sheet.due("by a known 0", m.x.run(0, 1, 0), BY_ZERO);
        m = new Maker();
        m.function(0, 300, 400, 8, m.parameter(0));
        m.compiles("a known body", -128, 0, 1);
        Sheet.due("known", m.x.run(0, 0, 0), -128);
    }

    private static void truths() {
        Maker m = new Maker();
        m.function(0, 0, 0, 0, m.pair(Maker.SAME, m.parameter(0), m.parameter(1)));
        m.compiles("SAME of TRUTHs", 0, 0, 1);
        for (int i = 0; i < 4; i++) {
            Sheet.due("SAME", m.x.run(0, i & 1, i >> 1), (i & 1) == i >> 1 ? 1 : 0);
        }
        Sheet.due("2 is no TRUTH", m.x.run(0, 2, 0), NONE);
        Sheet.due("-1 is no TRUTH", m.x.run(0, 0, -1), NONE);
        m = new Maker();
        m.function(0, 0, 400, 0, m.pair(Maker.SAME, m.parameter(0), m.yes()));
        m.compiles("a known TRUTH", 0, 0, 1);
        Sheet.due("SAME", m.x.run(0, 1, 0), 1);
        Sheet.due("SAME", m.x.run(0, 0, 0), 0);
    }

    private static void ifs() {
        Maker m = new Maker();
        int p = m.parameter(1);
        int bad = m.pair(Maker.DIV, p, m.cast(m.number(0), 8));
        m.function(0, 0, 8, 8, m.choose(m.parameter(0), bad, m.number(9)));
        m.compiles("one branch alone is run", 0, 0, 1);
        Sheet.due("b", m.x.run(0, 1, 4), BY_ZERO);
        Sheet.due("c", m.x.run(0, 0, 4), 9);
        m = new Maker();
        m.function(0, 8, 300, 8, m.choose(m.pair(Maker.LESS, m.parameter(1), m.number(0)),
            m.pair(Maker.SUB, m.parameter(0), m.number(1)), m.pair(Maker.ADD, m.parameter(0), m.number(1))));
        m.compiles("known to be false", 0, 3, 1);
        Sheet.due("c", m.x.run(0, 5, 0), 6);
        m.compiles("known to be true", 0, -3, 1);
        Sheet.due("b", m.x.run(0, 5, 0), 4);
    }

    private static void casts() {
        Maker m = new Maker();
        m.function(0, 31, 400, -4, m.cast(m.parameter(0), -4));
        m.compiles("CAST", 0, 0, 1);
        Sheet.due("15", m.x.run(0, 15, 0), 15);
        Sheet.due("16", m.x.run(0, 16, 0), OVERFLOW);
        Sheet.due("0", m.x.run(0, 0, 0), 0);
        Sheet.due("-1", m.x.run(0, -1, 0), OVERFLOW);
        m = new Maker();
        m.function(0, -31, 400, 31, m.cast(m.parameter(0), 31));
        m.compiles("CAST", 0, 0, 1);
        Sheet.due("2^30 - 1", m.x.run(0, 1073741823, 0), 1073741823);
        Sheet.due("2^30", m.x.run(0, 1073741824, 0), OVERFLOW);
        m = new Maker();
        m.function(0, 300, 8, 200, m.cast(m.parameter(1), 200));
        m.compiles("CAST by a parameter", 3, 0, 1);
        Sheet.due("7", m.x.run(0, 0, 7), 7);
        Sheet.due("8", m.x.run(0, 0, 8), OVERFLOW);
    }

    private static void calls() {
        Maker m = new Maker();
        int p = m.parameter(0);
        int q = m.parameter(1);
        m.function(0, 8, 8, 8, m.call(1, q, p));
        m.function(1, 8, 8, 8, m.call(2, p, q));
        m.function(2, 8, 8, 8, m.pair(Maker.SUB, p, q));
        m.compiles("arguments in their places", 0, 0, 3);
        Sheet.due("swapped", m.x.run(0, 3, 10), 7);
        Sheet.due("not swapped", m.x.run(1, 3, 10), -7);
        Sheet.due("not swapped", m.x.run(2, 3, 10), -7);

        m = new Maker();
        p = m.parameter(0);
        q = m.parameter(1);
        m.function(0, 8, 400, 8, m.pair(Maker.ADD, m.call(1, m.number(2), p), m.call(1, m.number(3), p)));
        m.function(1, 300, 8, 8, m.pair(Maker.MUL, p, q));
        m.compiles("each CALL runs its own instance", 0, 0, 3);
        Sheet.due("2p + 3p", m.x.run(0, 7, 0), 35);
        Sheet.due("2p", m.x.run(1, 0, 7), 14);
        Sheet.due("3p", m.x.run(2, 0, 7), 21);

        m = new Maker();
        p = m.parameter(0);
        q = m.parameter(1);
        m.function(0, 8, 400, 8, m.pair(Maker.ADD, m.call(1, -1, p), m.call(2, m.number(-5), -1)));
        m.function(1, 400, 8, 8, q);
        m.function(2, 8, 400, 8, p);
        m.compiles("one argument", 0, 0, 3);
        Sheet.due("p - 5", m.x.run(0, 7, 0), 2);
    }

    private static void trapOrder() {
        Maker m = new Maker();
        int p = m.parameter(0);
        int byZero = m.pair(Maker.DIV, p, m.number(0));
        int overflow = m.pair(Maker.ADD, p, m.number(127));
        m.function(0, 8, 400, 8, m.pair(Maker.ADD, byZero, overflow));
        m.function(1, 8, 400, 8, m.pair(Maker.ADD, overflow, byZero));
        m.function(2, 8, 400, 8, m.cast(byZero, 8));
        m.function(3, 8, 400, 8, m.call(7, byZero, overflow));
        m.function(4, 8, 400, 8, m.call(7, p, overflow));
        m.function(5, 8, 400, 8, m.choose(m.pair(Maker.LESS, overflow, p), byZero, p));
        m.function(7, 8, 8, 8, byZero);
        long[] due = {BY_ZERO, OVERFLOW, BY_ZERO, BY_ZERO, OVERFLOW, OVERFLOW};
        for (int f = 0; f < 6; f++) {
            Sheet.due("compile " + f, m.x.compile(f, 0, 0), f == 3 || f == 4 ? 2 : 1);
            Sheet.due("the first trap of " + f, m.x.run(0, 1, 0), due[f]);
        }
    }

    /** Function 0 calls itself so many times as its argument says. */
    private static void depth() {
        Maker m = new Maker();
        int p = m.parameter(0);
        int next = m.call(0, m.pair(Maker.SUB, p, m.number(1)), -1);
        m.function(0, 8, 400, 8, m.choose(m.pair(Maker.LESS, p, m.number(1)), m.number(7), next));
        m.compiles("recursion", 0, 0, 1);
        for (int n = -1; n < 9; n++) {
            Sheet.due(n + " calls deep", m.x.run(0, n, 0), n <= 5 ? 7 : DEPTH);
            Sheet.due(n + " calls deep: made", m.x.count(3), Math.max(0, Math.min(5, n)));
        }
        m = new Maker();
        m.function(0, 400, 400, 8, m.call(0, -1, -1));
        m.compiles("without end", 0, 0, 1);
        Sheet.due("without end", m.x.run(0, 0, 0), DEPTH);
    }

    private static void depthBeforeArguments() {
        Maker m = new Maker();
        int p = m.parameter(0);
        int less = m.pair(Maker.SUB, p, m.number(1));
        // p / (p - 1) is BY_ZERO once p has come down to 1: in the sixth call's argument if it was 6 at first
        int argument = m.pair(Maker.ADD, less, m.pair(Maker.SUB, m.pair(Maker.DIV, p, less), m.pair(Maker.DIV, p, less)));
        m.function(0, 8, 400, 8, m.call(0, argument, -1));
        m.compiles("traps in arguments", 0, 0, 1);
        Sheet.due("the fifth argument traps", m.x.run(0, 5, 0), BY_ZERO);
        Sheet.due("made", m.x.count(3), 4);
        Sheet.due("the sixth is not run", m.x.run(0, 6, 0), DEPTH);
        Sheet.due("made", m.x.count(3), 5);
    }

    /** A call in an argument of another is over before that one is made. */
    private static void callsInArguments() {
        Maker m = new Maker();
        int n = m.parameter(0);
        int p = n;
        for (int i = 0; i < 7; i++) {
            n = m.call(1, n, -1);
        }
        m.function(0, 8, 400, 8, n);
        m.function(1, 8, 400, 8, m.pair(Maker.ADD, p, m.number(1)));
        m.compiles("in arguments", 0, 0, 2);
        Sheet.due("seven, one after another", m.x.run(0, 1, 0), 8);
        Sheet.due("made", m.x.count(3), 7);
    }

    /** The example of README.md. */
    private static void readme() {
        StagedCompiler x = new StagedCompiler();
        int exponent = x.node(1, 0, 0, 0);
        int base = x.node(1, 1, 0, 0);
        int one = x.node(0, 1, 0, 0);
        int isOver = x.node(11, exponent, one, 0);
        int less = x.node(3, exponent, one, 0);
        int rest = x.node(15, 0, less, base);
        int product = x.node(4, base, rest, 0);
        int body = x.node(13, isOver, one, product);
        Sheet.due("define", x.define(0, 300, 16, 16, body), 0);
        Sheet.due("compile", x.compile(0, 3, 0), 4);
        Sheet.due("5 to the 3rd", x.run(0, 0, 5), 125);
        Sheet.due("50 to the 3rd", x.run(0, 0, 50), OVERFLOW);
    }
}
