import java.util.Map;
import java.util.Random;
import java.util.TreeMap;

/**
 * Random runs of calls, with fixed seeds, on a StagedCompiler and an Oracle: each answer is the
 * same. At the end it asks that the runs met every error and every TRAP often enough to count.
 */
public final class OracleTest implements Grower.Hand {
    private static final int RUNS = 40000;
    private static final int CALLS = 512;
    private static final int[] PARAMETER_CODES = {300, 300, 300, 400, 0, 8, 8, 8, -8, 31, -31, 4, 1, -1};
    private static final int[] COUNTS = {0, 1, 2, 3, 4, 5, 8, 8, 15, 16, 31, 32, -1, -5, 127, 128, 255,
        Integer.MAX_VALUE, Integer.MIN_VALUE};

    private final Random random;
    private final StagedCompiler x = new StagedCompiler();
    private final Oracle oracle = new Oracle();
    private final Map<Long, Integer> met;
    private final boolean tidy;
    private final boolean grown;
    private int made = 0;

    private OracleTest(long seed, Map<Long, Integer> met) {
        random = new Random(seed);
        this.met = met;
        tidy = seed % 4 != 0;
        grown = seed % 4 >= 2;
    }

    public static void main(String[] args) {
        Sheet.test("Promises 2 to 12: random runs answer as the Oracle does", OracleTest::compareAll);
        Sheet.finish();
    }

    private static void compareAll() {
        Map<Long, Integer> met = new TreeMap<>();
        for (int seed = 0; seed < RUNS; seed++) {
            new OracleTest(seed, met).compare();
        }
        System.out.println("answers of compile (errors below 0, else instances) and run (TRAPs): " + met);
        long[] wanted = {StagedCompiler.TYPE, StagedCompiler.RANGE, StagedCompiler.WIDTH,
            StagedCompiler.DIVISION, StagedCompiler.CALL, StagedCompiler.QUOTA, 1, 2, 3,
            StagedCompiler.OVERFLOW, StagedCompiler.BY_ZERO, StagedCompiler.DEPTH, StagedCompiler.TIRED};
        for (long answer : wanted) {
            Sheet.due("answer " + answer + " was met", met.getOrDefault(answer, 0) >= 5 ? 1 : 0, 1);
        }
    }

    private void same(String what, long got, long want) {
        made++;
        Sheet.due(what, got, want);
    }

    private int one(int... of) {
        return of[random.nextInt(of.length)];
    }

    private int wild() {
        return switch (random.nextInt(4)) {
            case 0 -> random.nextInt();
            case 1 -> random.nextInt(70) - 5;
            case 2 -> one(Integer.MIN_VALUE, Integer.MAX_VALUE, 100, 101, 200, 201, 300, 400);
            default -> random.nextInt(9) - 1;
        };
    }

    private int someNode() {
        int nodes = oracle.count(0);
        if (nodes == 0) {
            return 0;
        }
        return random.nextBoolean() ? nodes - 1 - random.nextInt(Math.min(nodes, 6)) : random.nextInt(nodes);
    }

    private void compare() {
        int functions = grown ? new Grower(random, this).grow() : makeFunctions();
        int compiles = 3 + random.nextInt(3);
        for (int i = 0; i < compiles && made < CALLS - 120; i++) {
            compileAndAsk(functions);
            if (random.nextInt(3) == 0) {
                makeNode(functions);
                makeFunction(random.nextInt(8));
            }
        }
    }

    private int makeFunctions() {
        int functions = 1 + random.nextInt(5);
        for (int f = 0; f < functions; f++) {
            int nodes = 3 + random.nextInt(11);
            for (int n = 0; n < nodes; n++) {
                makeNode(functions);
            }
            makeFunction(f);
        }
        return functions;
    }

    @Override
    public int node(int kind, int a, int b, int c) {
        int due = oracle.node(kind, a, b, c);
        same("node(" + kind + ", " + a + ", " + b + ", " + c + ")", x.node(kind, a, b, c), due);
        return due;
    }

    @Override
    public int define(int f, int first, int second, int result, int body) {
        int due = oracle.define(f, first, second, result, body);
        same("define(" + f + ", ..)", x.define(f, first, second, result, body), due);
        return due;
    }

    private void makeNode(int functions) {
        int kind = one(0, 0, 1, 1, 1, 2, 3, 4, 5, 6, 6, 7, 8, 9, 10, 11, 11, 12, 13, 13, 13, 14, 14, 15, 15, 15, 16);
        int a = someNode();
        int b = someNode();
        int c = someNode();
        if (kind == 0) {
            a = one(COUNTS);
        } else if (kind == 1) {
            a = random.nextInt(2);
        } else if (kind == 14) {
            b = one(8, 8, 8, -8, 31, -31, 1, -1, 4, 16, 100, 101, 200, 201);
        } else if (kind == 15) {
            a = random.nextInt(12) == 0 ? random.nextInt(8) : random.nextInt(functions);
            b = random.nextInt(4) == 0 ? -1 : b;
            c = random.nextInt(3) == 0 ? -1 : c;
        }
        if (!tidy && random.nextInt(6) == 0) {
            kind = random.nextInt(4) == 0 ? wild() : kind;
            a = random.nextInt(3) == 0 ? wild() : a;
            b = random.nextInt(3) == 0 ? wild() : b;
            c = random.nextInt(3) == 0 ? wild() : c;
        }
        node(kind, a, b, c);
    }

    private void makeFunction(int f) {
        int first = one(PARAMETER_CODES);
        int second = one(PARAMETER_CODES);
        if (random.nextInt(4) == 0) {
            second = first == 300 ? one(100, 200) : one(100, 101, 200, 201, second);
        }
        int result = one(8, 8, 8, 8, 0, -8, 31, 100, 101, 200, 4, -31);
        int body = someNode();
        if (!tidy && random.nextInt(6) == 0) {
            first = wild();
            result = random.nextBoolean() ? wild() : result;
            body = random.nextBoolean() ? wild() : body;
        }
        define(f, first, second, result, body);
    }

    private void compileAndAsk(int functions) {
        int f = random.nextInt(15) == 0 ? wild() : random.nextInt(functions);
        int v = one(COUNTS);
        int w = one(COUNTS);
        int due = oracle.compile(f, v, w);
        met.merge((long) due, 1, Integer::sum);
        same("compile(" + f + ", " + v + ", " + w + ")", x.compile(f, v, w), due);
        same("errorAt", x.errorAt(), oracle.errorAt());
        int instances = oracle.count(2);
        int asked = Math.min(instances, 3);
        for (int j = 0; j < asked; j++) {
            ask(random.nextInt(instances));
        }
        ask(random.nextBoolean() ? wild() : instances);
        for (int what = 0; what < 4; what++) {
            same("count " + what, x.count(what), oracle.count(what));
        }
        int what = wild();
        same("count " + what, x.count(what), oracle.count(what));
    }

    private void ask(int i) {
        same("functionOf", x.functionOf(i), oracle.functionOf(i));
        same("size", x.size(i), oracle.size(i));
        int k = random.nextInt(6) == 0 ? wild() : random.nextInt(2);
        same("countOf", x.countOf(i, k), oracle.countOf(i, k));
        for (int j = 0; j < 8; j++) {
            int n = random.nextInt(12) == 0 ? wild() : someNode();
            same("typeOf", x.typeOf(i, n), oracle.typeOf(i, n));
            same("known", x.known(i, n), oracle.known(i, n));
        }
        for (int j = 0; j < 3; j++) {
            int a = one(0, 1, 1, 2, 3, 7, -1, -8, 100, 127, -128, 255, random.nextInt());
            int b = one(0, 1, 1, 2, 3, 7, -1, -8, 100, 127, -128, 255, random.nextInt());
            long due = oracle.run(i, a, b);
            if (due > StagedCompiler.NONE) {
                met.merge(due, 1, Integer::sum);
            }
            same("run(" + i + ", " + a + ", " + b + ")", x.run(i, a, b), due);
            same("calls made", x.count(3), oracle.count(3));
        }
    }
}
