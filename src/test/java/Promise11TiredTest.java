/** Promise 11, the TRAP TIRED: what is counted, and that the 3001st node is not run. */
public final class Promise11TiredTest {
    private static final long TIRED = StagedCompiler.TIRED;
    private static final int ZERO_ARGUMENT = 0;

    public static void main(String[] args) {
        for (int kind = 0; kind < FILLERS; kind++) {
            filler(kind);
        }
        againstDepth(0, StagedCompiler.DEPTH);
        againstDepth(1, TIRED);
        eachRunAnew();
        Sheet.finish();
    }

    private static final int FILLERS = 16;

    /** A tree of 2^doublings parameters: 2^(doublings + 1) - 1 nodes are run. */
    private static int tree(Maker m, int doublings) {
        int n = m.parameter(0);
        for (int i = 0; i < doublings; i++) {
            n = m.pair(Maker.WRAPADD, n, n);
        }
        return n;
    }

    private static int sum(Maker m, int a, int b) {
        return m.pair(Maker.WRAPADD, a, b);
    }

    /**
     * The last node of the body to be run; all before it are 2998. So one that runs 2 nodes is the
     * most that can be: it answers how many the filler runs.
     */
    private static int nodesOf(Maker m, int kind, int[] made) {
        int p = m.parameter(0);
        int known = m.cast(m.pair(Maker.SUB, m.number(4), m.number(4)), 31);
        made[0] = p;
        switch (kind) {
            case 0:
                return 1;
            case 1:
                made[0] = known;
                return 1;
            case 2:
                made[0] = m.cast(p, 31);
                return 2;
            case 3:
                made[0] = m.cast(m.cast(p, 31), 31);
                return 3;
            case 4:
                made[0] = m.choose(m.yes(), p, p);
                return 2;
            case 5:
                made[0] = m.choose(m.no(), p, m.cast(p, 31));
                return 3;
            case 6:
                made[0] = m.choose(m.no(), p, known);
                return 1;
            case 7:
                made[0] = m.call(2, m.number(0), -1);
                return 2;
            case 8:
                made[0] = m.call(3, p, -1);
                return 3;
            case 9:
                made[0] = m.call(3, m.number(0), -1);
                return 3;
            case 10:
                made[0] = m.cast(m.call(2, m.number(0), -1), 31);
                return 3;
            case 11:
                made[0] = m.cast(m.call(3, p, -1), 31);
                return 4;
            case 12:
                made[0] = m.pair(Maker.WRAPADD, p, p);
                return 3;
            case 13:
                made[0] = m.choose(m.pair(Maker.LESS, p, p), p, p);
                return 5;
            case 14:
                made[0] = m.cast(m.cast(known, 31), 31);
                return 1;
            default:
                made[0] = m.cast(m.choose(m.yes(), known, p), 31);
                return 1;
        }
    }

    /** Calls that are made by the filler, when it is let run no more than two nodes. */
    private static int callsOf(int kind) {
        switch (kind) {
            case 7:
                return 1;
            case 8:
            case 9:
                // the argument is the 3000th node, the body would be the 3001st: the call is made
                return 1;
            case 10:
                return 1;
            default:
                // in 11 the argument would be the 3001st: the call is not made
                return 0;
        }
    }

    private static void filler(int kind) {
        Maker m = new Maker();
        int[] made = new int[1];
        int nodes = nodesOf(m, kind, made);
        int call = m.call(1, m.parameter(0), -1);
        int two = sum(m, call, call);
        int four = sum(m, two, two);
        int eleven = sum(m, sum(m, four, four), sum(m, two, call));
        int seventeen = sum(m, tree(m, 4), made[0]);
        int body = sum(m, tree(m, 6), sum(m, eleven, seventeen));
        m.function(0, 31, 400, 31, body);
        m.function(1, 31, 400, 31, tree(m, 7));
        m.function(2, 300, 400, 31, m.number(0));
        m.function(3, 31, 400, 31, m.parameter(0));
        int instances = kind >= 7 && kind <= 11 ? 3 : 2;
        m.compiles("filler " + kind, 0, 0, instances);
        Sheet.due("filler " + kind, m.x.run(0, ZERO_ARGUMENT, 0), nodes <= 2 ? 0 : TIRED);
        Sheet.due("filler " + kind + ": calls", m.x.count(3), 11 + callsOf(kind));
    }

    /** The sixth call deep is the 3000th node, or with one more the 3001st. */
    private static void againstDepth(int more, long due) {
        Maker m = new Maker();
        int p = m.parameter(0);
        int three = m.call(3, p, -1);
        int four = m.call(4, p, -1);
        int two = m.call(2, p, -1);
        int eight = tree(m, 3);
        int ten = sum(m, eight, sum(m, p, more == 0 ? p : m.cast(p, 31)));
        int threes = sum(m, three, three);
        int left = sum(m, sum(m, two, two), sum(m, threes, three));
        int q = sum(m, sum(m, four, four), ten);
        m.function(0, 31, 400, 31, sum(m, sum(m, left, q), m.call(1, -1, -1)));
        m.function(1, 400, 400, 31, m.call(1, -1, -1));
        m.function(2, 31, 400, 31, sum(m, threes, threes));
        m.function(3, 31, 400, 31, tree(m, 7));
        m.function(4, 31, 400, 31, tree(m, 5));
        m.compiles("against depth", 0, 0, 5);
        Sheet.due("against depth, " + more + " more", m.x.run(0, ZERO_ARGUMENT, 0), due);
        Sheet.due("calls", m.x.count(3), 20);
    }

    private static void eachRunAnew() {
        Maker m = new Maker();
        int body = tree(m, 7);
        m.function(0, 31, 400, 31, body);
        m.compiles("255 nodes", 0, 0, 1);
        for (int i = 0; i < 30; i++) {
            Sheet.due("run " + i, m.x.run(0, 1, 0), 128);
        }
    }
}
