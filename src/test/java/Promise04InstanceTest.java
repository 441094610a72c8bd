/** Promise 4, AN INSTANCE: its widths, when two are one, and how many there can be. */
public final class Promise04InstanceTest {
    private static final int WIDTH = StagedCompiler.WIDTH;
    private static final int QUOTA = StagedCompiler.QUOTA;
    private static final int[] VALUES = {Maker.MIN, -31, -1, 0, 1, 2, 30, 31, 32, 257, 65567, Maker.MAX};

    public static void main(String[] args) {
        Sheet.test("Promise 4: the width of a first parameter is not 1 .. 31: WIDTH",
            Promise04InstanceTest::firstWidth);
        Sheet.test("Promise 4: the width of a second parameter is not 1 .. 31: WIDTH",
            Promise04InstanceTest::secondWidth);
        Sheet.test("Promise 4: the width of a result is not 1 .. 31: WIDTH", Promise04InstanceTest::resultWidth);
        Sheet.test("Promise 4: the width of a called instance is 2^31: WIDTH", Promise04InstanceTest::greatWidth);
        Sheet.test("Promise 4: parameter k of a width is no COUNT one: WIDTH", Promise04InstanceTest::byNoCount);
        Sheet.test("Promise 4: the same function and values: that instance", Promise04InstanceTest::same);
        Sheet.test("Promise 4: another function: another instance", Promise04InstanceTest::otherFunction);
        Sheet.test("Promise 4: another value: another instance", Promise04InstanceTest::otherValue);
        Sheet.test("Promise 4: 2^31 and -2^31 are two values", Promise04InstanceTest::ends);
        Sheet.test("Promise 4: what is not for a COUNT parameter makes no other instance",
            Promise04InstanceTest::otherArguments);
        Sheet.test("Promise 4: 20 are there: QUOTA", Promise04InstanceTest::quota);
        Sheet.test("Promise 4: 20 are there and one is like it: no QUOTA", Promise04InstanceTest::likeIt);
        Sheet.test("Promise 4: QUOTA comes before WIDTH", Promise04InstanceTest::quotaBeforeWidth);
        Sheet.test("Promise 4: TYPE for a COUNT parameter comes before QUOTA",
            Promise04InstanceTest::countsBeforeQuota);
        Sheet.test("Promise 4: QUOTA comes before the other arguments", Promise04InstanceTest::quotaFirst);
        Sheet.finish();
    }

    /** The body is a TRUTH, so that another result is error TYPE at it: but no WIDTH. */
    private static void width(int first, int second, int result, int[] values, boolean good) {
        Maker m = new Maker();
        int body = m.yes();
        m.function(0, first, second, result, body);
        String what = first + " " + second + " " + result + " with " + values[0] + " " + values[1];
        if (good) {
            m.answers(what, values[0], values[1], result == 0 ? 0 : StagedCompiler.TYPE, body, 1);
        } else {
            m.fails(what, values[0], values[1], WIDTH, 0, 63);
        }
    }

    private static void firstWidth() {
        for (int value : VALUES) {
            boolean good = value >= 1 && value <= 31;
            width(101, 300, 0, new int[] {5, value}, good);
            width(201, 300, 0, new int[] {40, value}, good);
        }
    }

    private static void secondWidth() {
        for (int value : VALUES) {
            boolean good = value >= 1 && value <= 31;
            width(300, 100, 0, new int[] {value, 5}, good);
            width(300, 200, 0, new int[] {value, 40}, good);
        }
    }

    private static void resultWidth() {
        for (int value : VALUES) {
            boolean good = value >= 1 && value <= 31;
            for (int code = 100; code <= 200; code += 100) {
                width(300, 400, code, new int[] {value, 40}, good);
                width(300, 300, code, new int[] {value, 40}, good);
                width(400, 300, code + 1, new int[] {40, value}, good);
                width(300, 300, code + 1, new int[] {40, value}, good);
            }
        }
    }

    private static void greatWidth() {
        for (int code : new int[] {100, 200}) {
            Maker m = new Maker();
            int n = m.call(1, m.greatest(), -1);
            m.function(0, 400, 400, 8, n);
            m.function(1, 300, 400, code, m.number(0));
            m.fails("2^31", 0, 0, WIDTH, 0, n);
        }
    }

    private static void byNoCount() {
        int[] five = {5, 5};
        for (int code = 100; code <= 200; code += 100) {
            width(code, 400, 0, five, false);
            width(code, 300, 0, five, false);
            width(code + 1, 8, 0, five, false);
            width(code + 1, 400, 0, five, false);
            width(300, code + 1, 0, five, false);
            width(8, code, 0, five, false);
            width(0, code, 0, five, false);
            width(400, code, 0, five, false);
            width(8, 300, code, five, false);
            width(400, 300, code, five, false);
            width(300, 0, code + 1, five, false);
            width(300, 400, code + 1, five, false);
            // the second parameter has a width, but is no COUNT one, so the result has none by it
            width(300, code, code + 1, five, false);
            width(300, code, code, five, true);
        }
    }

    private static void same() {
        Maker m = new Maker();
        int three = m.pair(Maker.ADD, m.number(1), m.number(2));
        int a = m.call(1, m.number(3), m.number(4));
        int b = m.call(1, three, m.number(4));
        m.function(0, 400, 400, 8, m.pair(Maker.ADD, a, b));
        m.function(1, 300, 300, 8, m.parameter(0));
        m.compiles("two CALLs", 0, 0, 2);
        Sheet.due("run", m.x.run(0, 0, 0), 6);

        m = new Maker();
        m.function(0, 300, 300, 8, m.call(0, m.parameter(0), m.parameter(1)));
        m.compiles("the instance itself", 1, 2, 1);
        m = new Maker();
        m.function(0, 300, 300, 8, m.call(0, m.parameter(1), m.parameter(0)));
        m.compiles("there and back", 1, 2, 2);
        m.compiles("its own mirror", 2, 2, 1);
        m = new Maker();
        m.function(0, 400, 400, 8, m.call(0, -1, -1));
        m.compiles("without values", 0, 0, 1);
    }

    private static void otherFunction() {
        Maker m = new Maker();
        int a = m.call(1, m.number(3), m.number(4));
        int b = m.call(2, m.number(3), m.number(4));
        m.function(0, 300, 300, 8, m.pair(Maker.ADD, a, b));
        m.function(1, 300, 300, 8, m.parameter(0));
        m.function(2, 300, 300, 8, m.parameter(1));
        m.compiles("of the same values", 3, 4, 3);
        Sheet.due("run", m.x.run(0, 0, 0), 7);
    }

    private static void otherValue() {
        Maker m = new Maker();
        int a = m.call(1, m.number(3), m.number(4));
        int b = m.call(1, m.number(5), m.number(4));
        int c = m.call(1, m.number(3), m.number(6));
        m.function(0, 400, 400, 8, m.pair(Maker.ADD, a, m.pair(Maker.ADD, b, c)));
        m.function(1, 300, 300, 8, m.pair(Maker.MUL, m.parameter(0), m.parameter(1)));
        m.compiles("of the first, then of the second", 0, 0, 4);
        long[][] values = {{3, 4}, {5, 4}, {3, 6}};
        for (int i = 1; i < 4; i++) {
            // the sum's first operand is wanted first
            Sheet.due("first of " + i, m.x.countOf(i, 0), values[i - 1][0]);
            Sheet.due("second of " + i, m.x.countOf(i, 1), values[i - 1][1]);
        }
        Sheet.due("run", m.x.run(0, 0, 0), 12 + 20 + 18);
    }

    private static void ends() {
        Maker m = new Maker();
        int great = m.call(1, m.greatest(), m.number(Maker.MIN));
        int small = m.call(1, m.number(Maker.MIN), m.greatest());
        m.function(0, 400, 400, 0, m.pair(Maker.SAME, great, small));
        m.function(1, 300, 300, 0, m.pair(Maker.LESS, m.parameter(0), m.parameter(1)));
        m.compiles("told apart", 0, 0, 3);
        Sheet.due("2^31", m.x.countOf(1, 0), Maker.TWO_31);
        Sheet.due("-2^31", m.x.countOf(1, 1), -Maker.TWO_31);
        Sheet.due("2^31 < -2^31", m.x.run(1, 0, 0), 0);
        Sheet.due("-2^31 < 2^31", m.x.run(2, 0, 0), 1);
    }

    private static void otherArguments() {
        Maker m = new Maker();
        int p = m.parameter(0);
        int a = m.call(1, m.number(3), p);
        int b = m.call(1, m.number(3), m.number(9));
        int c = m.call(1, m.number(3), m.number(-9));
        m.function(0, 8, 400, 8, m.pair(Maker.ADD, a, m.pair(Maker.ADD, b, c)));
        m.function(1, 300, 8, 8, m.pair(Maker.ADD, m.parameter(0), m.parameter(1)));
        m.compiles("known ones neither", 0, 0, 2);
        Sheet.due("run", m.x.run(0, 10, 0), 13 + 12 - 6);
    }

    /** Function 0 calls itself with one less, down to 0; its CALL is node 3. */
    private static Maker countdown() {
        Maker m = new Maker();
        int p = m.parameter(0);
        int next = m.call(0, m.pair(Maker.SUB, p, m.number(1)), -1);
        m.function(0, 300, 400, 8, m.choose(m.pair(Maker.LESS, p, m.number(1)), m.number(7), next));
        return m;
    }

    private static void quota() {
        Maker m = countdown();
        m.compiles("20 instances", 19, 0, 20);
        Sheet.due("the last", m.x.countOf(19, 0), 0);
        Sheet.due("no more", m.x.functionOf(20), -1);
        m.fails("21 instances", 20, 0, QUOTA, 0, 3);
        m.fails("many instances", Maker.MAX, 0, QUOTA, 0, 3);
        m.compiles("20 instances again", 19, 0, 20);
        m.compiles("one", -5, 0, 1);
    }

    /**
     * Function 0 calls itself with one more, up to 20, its first value being 1 and its second
     * parameter of that width; at 20, it calls itself with the last one.
     */
    private static Maker countUp(int last) {
        Maker m = new Maker();
        endsWith(m, m.number(last), m.number(0));
        return m;
    }

    /** The nodes are arguments of the last CALL, the last node but one. */
    private static void endsWith(Maker m, int first, int second) {
        int p = m.parameter(0);
        int isLast = m.pair(Maker.LESS, m.number(19), p);
        int next = m.call(0, m.pair(Maker.ADD, p, m.number(1)), m.number(0));
        int end = m.call(0, first, second);
        m.function(0, 300, 100, 8, m.choose(isLast, end, next));
    }

    private static void likeIt() {
        for (int last = 1; last <= 20; last++) {
            countUp(last).compiles("the 20th calls " + last, 1, 0, 20);
        }
        Maker m = countUp(21);
        m.fails("the 20th calls another", 1, 0, QUOTA, 0, m.x.count(0) - 2);
    }

    private static void quotaBeforeWidth() {
        for (int last : new int[] {0, 32}) {
            Maker m = countUp(last);
            m.fails("20 are there, and the width is bad", 1, 0, QUOTA, 0, m.x.count(0) - 2);
            m.fails("19 are there", 2, 0, WIDTH, 0, m.x.count(0) - 2);
        }
    }

    private static void countsBeforeQuota() {
        Maker m = new Maker();
        endsWith(m, m.yes(), m.number(0));
        m.fails("a TRUTH", 1, 0, StagedCompiler.TYPE, 0, m.x.count(0) - 2);
        m = new Maker();
        endsWith(m, m.cast(m.number(21), 8), m.number(0));
        m.fails("a KNOWN one of an INT type", 1, 0, StagedCompiler.TYPE, 0, m.x.count(0) - 2);
    }

    private static void quotaFirst() {
        int[][] rows = {{21, QUOTA}, {20, StagedCompiler.RANGE}};
        for (int[] row : rows) {
            Maker m = new Maker();
            endsWith(m, m.number(row[0]), m.number(Maker.MAX));
            m.fails("RANGE, with " + row[0], 1, 0, row[1], 0, m.x.count(0) - 2);
        }
        Maker m = new Maker();
        endsWith(m, m.number(21), m.yes());
        m.fails("TYPE", 1, 0, QUOTA, 0, m.x.count(0) - 2);
    }
}
