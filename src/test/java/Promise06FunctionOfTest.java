/** Promise 6: functionOf. */
public final class Promise06FunctionOfTest {
    private static final int REFUSED = StagedCompiler.REFUSED;

    public static void main(String[] args) {
        Sheet.test("Promise 6: the function of each instance", Promise06FunctionOfTest::functions);
        Sheet.test("Promise 6: no instance before compile: REFUSED", Promise06FunctionOfTest::beforeCompile);
        Sheet.test("Promise 6: i out of the instances: REFUSED", Promise06FunctionOfTest::outOfInstances);
        Sheet.test("Promise 6: 20 instances: 19 is one, 20 is REFUSED", Promise06FunctionOfTest::full);
        Sheet.test("Promise 6: instances of an earlier compile: REFUSED", Promise06FunctionOfTest::gone);
        Sheet.finish();
    }

    /** Function 0 calls 7 and 3. */
    private static Maker withThree() {
        Maker m = new Maker();
        int n = m.pair(Maker.ADD, m.call(7, -1, -1), m.call(3, -1, -1));
        m.function(0, 400, 400, 8, n);
        m.function(7, 400, 400, 8, m.number(1));
        m.function(3, 400, 400, 8, m.number(2));
        m.function(1, 400, 400, 8, m.number(500));
        return m;
    }

    private static void functions() {
        Maker m = withThree();
        m.compiles("three", 0, 0, 3);
        Sheet.due("functionOf 0", m.x.functionOf(0), 0);
        Sheet.due("functionOf 1", m.x.functionOf(1), 7);
        Sheet.due("functionOf 2", m.x.functionOf(2), 3);
    }

    private static void beforeCompile() {
        Maker m = withThree();
        Sheet.due("functionOf 0", m.x.functionOf(0), REFUSED);
    }

    private static void outOfInstances() {
        Maker m = withThree();
        m.compiles("three", 0, 0, 3);
        for (int bad : new int[] {Maker.MIN, -1, 3, 4, 19, 20, 21, Maker.MAX}) {
            Sheet.due("functionOf " + bad, m.x.functionOf(bad), REFUSED);
        }
    }

    private static void full() {
        Maker m = new Maker();
        int p = m.parameter(0);
        int next = m.call(0, m.pair(Maker.SUB, p, m.number(1)), -1);
        m.function(0, 300, 400, 8, m.choose(m.pair(Maker.LESS, p, m.number(1)), m.call(7, -1, -1), next));
        m.function(7, 400, 400, 8, m.number(5));
        m.compiles("twenty", 18, 0, 20);
        Sheet.due("functionOf 18", m.x.functionOf(18), 0);
        Sheet.due("functionOf 19", m.x.functionOf(19), 7);
        Sheet.due("functionOf 20", m.x.functionOf(20), REFUSED);
    }

    private static void gone() {
        Maker m = withThree();
        m.compiles("three", 0, 0, 3);
        Sheet.due("another", m.x.compile(3, 0, 0), 1);
        Sheet.due("functionOf 0", m.x.functionOf(0), 3);
        Sheet.due("functionOf 1", m.x.functionOf(1), REFUSED);
        Sheet.due("an error", m.x.compile(1, 0, 0), StagedCompiler.RANGE);
        Sheet.due("functionOf 0", m.x.functionOf(0), REFUSED);
    }
}
