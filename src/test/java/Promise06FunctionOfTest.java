/** Promise 6: functionOf. */
public final class Promise06FunctionOfTest {
    public static void main(String[] args) {
        Maker m = new Maker();
        int n = m.pair(Maker.ADD, m.call(7, -1, -1), m.call(3, -1, -1));
        m.function(0, 400, 400, 8, n);
        m.function(7, 400, 400, 8, m.number(1));
        m.function(3, 400, 400, 8, m.number(2));
        Sheet.due("before compile", m.x.functionOf(0), -1);
        m.compiles("three", 0, 0, 3);
        int[] due = {0, 7, 3};
        for (int i = 0; i < 3; i++) {
            Sheet.due("functionOf " + i, m.x.functionOf(i), due[i]);
        }
        for (int i : new int[] {Maker.MIN, -1, 3, 19, 20, 21, Maker.MAX}) {
            Sheet.due("functionOf " + i, m.x.functionOf(i), -1);
        }
        Sheet.due("another", m.x.compile(3, 0, 0), 1);
        Sheet.due("functionOf 0", m.x.functionOf(0), 3);
        Sheet.due("the others went", m.x.functionOf(1), -1);
        Sheet.finish();
    }
}
