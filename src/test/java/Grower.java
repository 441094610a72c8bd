import java.util.ArrayList;
import java.util.List;
import java.util.Random;

/**
 * Grows functions that mostly compile: every node is grown for the type that is due where it
 * stands. It hands on nodes and functions by way of a Hand, so that two objects can get the same.
 */
final class Grower {
    /** Takes what is grown; answers as node and define do. */
    interface Hand {
        int node(int kind, int a, int b, int c);

        int define(int f, int first, int second, int result, int body);
    }

    private record Seen(int type, int node) {
    }

    private static final int COUNT = 300;
    private static final int ABSENT = 400;

    private final Random random;
    private final Hand hand;
    private final int functions;
    private final boolean heavy;
    private final int[][] codes;
    private final int[] results;
    private final int mainType;
    private final List<Seen> pool = new ArrayList<>();
    private int current;
    private int budget;

    Grower(Random random, Hand hand) {
        this.random = random;
        this.hand = hand;
        heavy = random.nextInt(3) == 0;
        functions = 2 + random.nextInt(heavy ? 5 : 3);
        mainType = one(8, 8, 8, 16, -8, 31, -31, 4, 1, -1);
        codes = new int[functions][];
        results = new int[functions];
        for (int f = 0; f < functions; f++) {
            codes[f] = new int[] {one(COUNT, COUNT, mainType, 0), one(mainType, mainType, ABSENT, 0, COUNT)};
            if (codes[f][0] == COUNT && random.nextInt(6) == 0) {
                codes[f][1] = one(100, 200);
            }
            results[f] = random.nextInt(5) == 0 ? 0 : mainType;
        }
    }

    private int one(int... of) {
        return of[random.nextInt(of.length)];
    }

    int grow() {
        for (int f = 0; f < functions; f++) {
            pool.clear();
            current = f;
            budget = 60 / functions;
            int body = grow(results[f], heavy ? 7 : 2 + random.nextInt(6));
            hand.define(f, codes[f][0], codes[f][1], results[f], body);
        }
        return functions;
    }

    private int keep(int type, int node) {
        pool.add(new Seen(type, node));
        return node;
    }

    /** A node made, or the leaf that stands in for one that is refused. */
    private int make(int type, int kind, int a, int b, int c) {
        budget--;
        int n = hand.node(kind, a, b, c);
        return n >= 0 ? keep(type, n) : a >= 0 ? a : 0;
    }

    private int grow(int due, int height) {
        int type = !heavy && random.nextInt(60) == 0 ? one(COUNT, 0, mainType, 8) : due;
        if (random.nextInt(heavy ? 2 : 4) == 0 || budget <= 0) {
            int again = again(type);
            if (again >= 0) {
                return again;
            }
        }
        if (height <= 1 || budget <= 0) {
            return leaf(type, height);
        }
        return type == COUNT ? count(height) : type == 0 ? truth(height) : whole(type, height);
    }

    /** The newest nodes of a type are the deepest: to use one again makes the run long. */
    private int again(int type) {
        for (int i = pool.size() - 1; i >= 0; i--) {
            if (pool.get(i).type == type && random.nextInt(2) == 0) {
                return pool.get(i).node;
            }
        }
        return -1;
    }

    private int leaf(int type, int height) {
        for (int k = 0; k < 2; k++) {
            if (codes[current][k] == type && random.nextInt(5) != 0) {
                return make(type, 1, k, 0, 0);
            }
        }
        if (type == COUNT) {
            return make(type, 0, one(0, 1, 2, 3, 4, 5, 7, 8, -1, 31, 100), 0, 0);
        }
        int zero = make(COUNT, 0, one(0, 0, 1, 3), 0, 0);
        return type == 0 ? make(type, one(11, 12), zero, zero, 0) : make(type, 14, zero, type, 0);
    }

    private int count(int height) {
        if (random.nextInt(8) == 0) {
            return make(COUNT, 16, grow(mainType, height - 1), 0, 0);
        }
        if (random.nextInt(8) == 0) {
            int a = make(0, 11, grow(COUNT, 1), grow(COUNT, 1), 0);
            return make(COUNT, 13, a, grow(COUNT, height - 1), grow(COUNT, height - 1));
        }
        return make(COUNT, one(2, 3, 3, 4, 5), grow(COUNT, height - 1), grow(COUNT, 1), 0);
    }

    private int truth(int height) {
        int kind = random.nextInt(6);
        if (kind == 0) {
            return make(0, 12, grow(0, height - 1), grow(0, height - 1), 0);
        }
        if (kind == 1) {
            return call(0, height);
        }
        if (kind == 2) {
            return make(0, 13, grow(0, height - 1), grow(0, height - 1), grow(0, height - 1));
        }
        int type = random.nextInt(4) == 0 ? COUNT : mainType;
        return make(0, one(11, 12), grow(type, height - 1), grow(type, height - 1), 0);
    }

    private int whole(int type, int height) {
        int way = random.nextInt(10);
        if (way < 3) {
            return call(type, height);
        }
        if (way == 3) {
            return make(type, 14, grow(one(type, COUNT), height - 1), type, 0);
        }
        if (way == 4 || way == 5 && !heavy) {
            return make(type, 13, grow(0, height - 1), grow(type, height - 1), grow(type, height - 1));
        }
        int kind = heavy ? one(6, 7, 8, 9, 10) : 2 + random.nextInt(9);
        int a = grow(type, height - 1);
        int b = grow(random.nextInt(4) == 0 ? COUNT : type, height - 1);
        return random.nextBoolean() ? make(type, kind, a, b, 0) : make(type, kind, b, a, 0);
    }

    /** Heavy ones call later functions alone, so that they come to no DEPTH; the others any. */
    private int call(int type, int height) {
        int f = heavy ? current + 1 : random.nextInt(functions);
        if (f >= functions || results[f] != type) {
            return leaf(type, height);
        }
        int[] given = new int[2];
        for (int k = 0; k < 2; k++) {
            int code = codes[f][k];
            given[k] = code == ABSENT ? -1 : grow(code == 100 || code == 200 ? COUNT : code, height - 1);
        }
        return make(type, 15, f, given[0], given[1]);
    }
}
