import java.util.function.ToIntFunction;

/** Promise 11, the TRAP TIRED: which nodes are RUN, and that the 3001st is not. */
public final class Promise11TiredTest {
    private static final long TIRED = StagedCompiler.TIRED;

    public static void main(String[] args) {
        Sheet.test("Promise 11: TIRED: the 3000th node is run, the 3001st is not", Promise11TiredTest::limit);
        Sheet.test("Promise 11: TIRED: KNOWN ones count", Promise11TiredTest::knownCount);
        Sheet.test("Promise 11: TIRED: of a KNOWN one no operand is run", Promise11TiredTest::underKnown);
        Sheet.test("Promise 11: TIRED: a node that is RUN again counts again", Promise11TiredTest::again);
        Sheet.test("Promise 11: TIRED: of an IF whose a is KNOWN just the branch is run",
            Promise11TiredTest::knownIf);
        Sheet.test("Promise 11: TIRED: of another IF a is run, and one branch", Promise11TiredTest::openIf);
        Sheet.test("Promise 11: TIRED: arguments for COUNT parameters are not run", Promise11TiredTest::counts);
        Sheet.test("Promise 11: TIRED: the other arguments are run", Promise11TiredTest::arguments);
        Sheet.test("Promise 11: TIRED: the nodes of called instances count", Promise11TiredTest::bodies);
        Sheet.test("Promise 11: TIRED: a call whose arguments were run is made", Promise11TiredTest::callsMade);
        Sheet.test("Promise 11: TIRED: at the 3000th node DEPTH, at the 3001st TIRED",
            Promise11TiredTest::againstDepth);
        Sheet.test("Promise 11: TIRED: each run counts anew", Promise11TiredTest::eachRunAnew);
        Sheet.finish();
    }

    /** A tree of 2^doublings parameters: 2^(doublings + 1) - 1 nodes are run. */
    private static int tree(Maker m, int doublings) {
        int n = m.parameter(0);
        for (int i = 0; i < doublings; i++) {
            n = m.pair(Maker.WRAPADD, n, n);
        }
        return n;
    }

    private static int sum(Maker m, int a, int b) {
        return m.pair(Maker.WRAPADD, a, b);
    }

    /** A KNOWN node of SIGNED 31, the value being 0. */
    private static int known(Maker m) {
        return m.cast(m.pair(Maker.SUB, m.number(4), m.number(4)), 31);
    }

    /**
     * Function 0 runs 2998 nodes, with 11 calls, and then the node that is made here: which runs so
     * many nodes, if it is let, two being the most that can be, and makes so many calls. Function 2
     * is 0, with a COUNT parameter; function 3 is its parameter, a SIGNED 31.
     */
    private static void after2998(String what, ToIntFunction<Maker> make, int nodes, int calls) {
        Maker m = new Maker();
        int made = make.applyAsInt(m);
        int call = m.call(1, m.parameter(0), -1);
        int two = sum(m, call, call);
        int four = sum(m, two, two);
        int eleven = sum(m, sum(m, four, four), sum(m, two, call));
        int body = sum(m, tree(m, 6), sum(m, eleven, sum(m, tree(m, 4), made)));
        m.function(0, 31, 0, 31, body);
        m.function(1, 31, 400, 31, tree(m, 7));
        m.function(2, 300, 400, 31, m.number(0));
        m.function(3, 31, 400, 31, m.parameter(0));
        Sheet.due(what + ": it compiles", m.x.compile(0, 0, 0) > 1 ? 1 : 0, 1);
        Sheet.due(what + ": run", m.x.run(0, 0, 0), nodes <= 2 ? 0 : TIRED);
        Sheet.due(what + ": calls made", m.x.count(3), 11 + calls);
    }

    private static void limit() {
        after2998("1 node", m -> m.parameter(0), 1, 0);
        after2998("2 nodes", m -> m.cast(m.parameter(0), 31), 2, 0);
        after2998("3 nodes", m -> m.cast(m.cast(m.parameter(0), 31), 31), 3, 0);
        after2998("3 nodes", m -> sum(m, m.parameter(0), m.parameter(0)), 3, 0);
        after2998("15 nodes", m -> tree(m, 3), 15, 0);
    }

    private static void knownCount() {
        after2998("a KNOWN one alone", Promise11TiredTest::known, 1, 0);
        after2998("a KNOWN one behind", m -> sum(m, m.parameter(0), known(m)), 3, 0);
        after2998("a NUMBER behind", m -> sum(m, m.parameter(0), m.number(0)), 3, 0);
        after2998("a KNOWN one before", m -> sum(m, known(m), m.parameter(0)), 3, 0);
    }

    private static void underKnown() {
        after2998("KNOWN CASTs", m -> m.cast(m.cast(known(m), 31), 31), 1, 0);
        after2998("a KNOWN sum", m -> sum(m, known(m), known(m)), 1, 0);
        after2998("a KNOWN IF", m -> m.choose(m.yes(), known(m), m.parameter(0)), 1, 0);
        after2998("a WIDTH", m -> m.pair(Maker.SUB, m.width(m.parameter(0)), m.number(31)), 1, 0);
    }

    private static void again() {
        after2998("the same operand twice", m -> {
            int p = m.parameter(0);
            return sum(m, p, p);
        }, 3, 0);
        // 6 nodes of function 0 and 8 of function 1: 12 calls with 257 nodes each, and 11 sums
        Maker m = new Maker();
        int call = m.call(1, m.parameter(0), -1);
        int two = sum(m, call, call);
        int four = sum(m, two, two);
        m.function(0, 31, 400, 31, sum(m, four, sum(m, four, four)));
        m.function(1, 31, 400, 31, tree(m, 7));
        m.function(2, 31, 400, 31, sum(m, four, four));
        m.compiles("few nodes", 0, 0, 2);
        Sheet.due("3095 times", m.x.run(0, 1, 0), TIRED);
        Sheet.due("fewer", m.x.compile(2, 0, 0), 2);
        Sheet.due("2063 times", m.x.run(0, 1, 0), 8 * 128);
    }

    private static void knownIf() {
        after2998("b", m -> m.choose(m.yes(), m.parameter(0), m.number(1)), 2, 0);
        after2998("c", m -> m.choose(m.no(), m.number(1), m.parameter(0)), 2, 0);
        after2998("two in c", m -> m.choose(m.no(), m.number(1), m.cast(m.parameter(0), 31)), 3, 0);
        after2998("two in b", m -> m.choose(m.yes(), m.cast(m.parameter(0), 31), m.number(1)), 3, 0);
    }

    private static void openIf() {
        after2998("a and c", m -> m.choose(m.parameter(1), known(m), m.parameter(0)), 3, 0);
        // the IF, a and c are run; b, which is not, has more nodes than there could be
        Maker m = new Maker();
        int call = m.call(1, m.parameter(0), -1);
        int two = sum(m, call, call);
        int four = sum(m, two, two);
        int twelve = sum(m, four, sum(m, four, four));
        m.function(0, 31, 0, 31, m.choose(m.parameter(1), twelve, m.parameter(0)));
        m.function(1, 31, 400, 31, tree(m, 7));
        m.compiles("branches", 0, 0, 2);
        Sheet.due("b", m.x.run(0, 1, 1), TIRED);
        Sheet.due("c", m.x.run(0, 1, 0), 1);
    }

    private static void counts() {
        after2998("a NUMBER", m -> m.call(2, m.number(0), -1), 2, 1);
        after2998("a sum", m -> m.call(2, m.pair(Maker.ADD, m.number(1), m.number(2)), -1), 2, 1);
    }

    private static void arguments() {
        // the CALL and its argument are run; the body would be the 3001st
        after2998("a parameter", m -> m.call(3, m.parameter(0), -1), 3, 1);
        after2998("a KNOWN one", m -> m.call(3, m.number(0), -1), 3, 1);
    }

    private static void bodies() {
        after2998("a KNOWN body", m -> m.call(2, m.number(0), -1), 2, 1);
        after2998("a KNOWN body under a CAST", m -> m.cast(m.call(2, m.number(0), -1), 31), 3, 1);
    }

    private static void callsMade() {
        after2998("the body would be the 3001st", m -> m.call(3, m.parameter(0), -1), 3, 1);
        after2998("the argument would be", m -> m.cast(m.call(3, m.parameter(0), -1), 31), 4, 0);
        after2998("the CALL would be", m -> m.cast(m.cast(m.call(3, m.parameter(0), -1), 31), 31), 5, 0);
    }

    /** Function 0 runs 2994 or 2995 nodes, and then calls six deep: the sixth CALL is DEPTH. */
    private static void againstDepth() {
        for (int more = 0; more < 2; more++) {
            Maker m = new Maker();
            int p = m.parameter(0);
            int three = m.call(3, p, -1);
            int four = m.call(4, p, -1);
            int two = m.call(2, p, -1);
            int eight = tree(m, 3);
            int ten = sum(m, eight, sum(m, p, more == 0 ? p : m.cast(p, 31)));
            int threes = sum(m, three, three);
            int left = sum(m, sum(m, two, two), sum(m, threes, three));
            int right = sum(m, sum(m, four, four), ten);
            m.function(0, 31, 400, 31, sum(m, sum(m, left, right), m.call(1, -1, -1)));
            m.function(1, 400, 400, 31, m.call(1, -1, -1));
            m.function(2, 31, 400, 31, sum(m, threes, threes));
            m.function(3, 31, 400, 31, tree(m, 7));
            m.function(4, 31, 400, 31, tree(m, 5));
            m.compiles("against DEPTH", 0, 0, 5);
            Sheet.due(more + " more", m.x.run(0, 0, 0), more == 0 ? StagedCompiler.DEPTH : TIRED);
            Sheet.due("calls made", m.x.count(3), 20);
        }
    }

    private static void eachRunAnew() {
        Maker m = new Maker();
        m.function(0, 31, 400, 31, tree(m, 7));
        m.compiles("255 nodes", 0, 0, 1);
        for (int i = 0; i < 30; i++) {
            Sheet.due("run " + i, m.x.run(0, 1, 0), 128);
        }
    }
}
