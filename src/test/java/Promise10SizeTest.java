/** Promise 10: size. */
public final class Promise10SizeTest {
    public static void main(String[] args) {
        eachKind();
        sharedNodesCountOnce();
        knownAndUnlookedAt();
        firstAndLastNode();
        noSuch();
        Sheet.finish();
    }

    private static void eachKind() {
        for (int kind = Maker.ADD; kind <= Maker.SAME; kind++) {
            Maker m = new Maker();
            m.function(0, 8, 400, kind >= Maker.LESS ? 0 : 8, m.pair(kind, m.parameter(0), m.number(1)));
            m.compiles("kind " + kind, 0, 0, 1);
            Sheet.due("size with kind " + kind, m.x.size(0), 1);
        }
        Maker m = new Maker();
        m.function(0, 0, 8, 8, m.choose(m.parameter(0), m.parameter(1), m.number(1)));
        m.compiles("IF", 0, 0, 1);
        Sheet.due("IF", m.x.size(0), 1);
        m = new Maker();
        m.function(0, 8, 400, 9, m.cast(m.parameter(0), 9));
        m.compiles("CAST", 0, 0, 1);
        Sheet.due("CAST", m.x.size(0), 1);
        m = new Maker();
        m.function(0, 8, 400, 8, m.call(0, m.number(1), -1));
        m.compiles("CALL", 0, 0, 1);
        Sheet.due("CALL", m.x.size(0), 1);
        m = new Maker();
        m.function(0, 8, 400, 8, m.width(m.parameter(0)));
        m.compiles("WIDTH", 0, 0, 1);
        Sheet.due("WIDTH and a parameter", m.x.size(0), 0);
        m = new Maker();
        m.function(0, 8, 400, 8, m.parameter(0));
        m.compiles("PARAMETER", 0, 0, 1);
        Sheet.due("PARAMETER", m.x.size(0), 0);
        m = new Maker();
        m.function(0, 8, 400, 8, m.width(m.cast(m.parameter(0), 9)));
        m.compiles("WIDTH of CAST", 0, 0, 1);
        Sheet.due("the CAST under a WIDTH was looked at", m.x.size(0), 1);
    }

    private static void sharedNodesCountOnce() {
        Maker m = new Maker();
        int n = m.pair(Maker.WRAPADD, m.parameter(0), m.parameter(0));
        for (int i = 0; i < 4; i++) {
            n = m.pair(Maker.WRAPMUL, n, n);
        }
        m.function(0, 8, 400, 8, n);
        m.compiles("shared", 0, 0, 1);
        Sheet.due("shared", m.x.size(0), 5);
    }

    private static void knownAndUnlookedAt() {
        Maker m = new Maker();
        int p = m.parameter(0);
        int untaken = m.pair(Maker.ADD, p, m.number(1));
        int taken = m.pair(Maker.SUB, p, m.pair(Maker.ADD, m.number(1), m.number(2)));
        m.function(0, 8, 300, 8, m.choose(m.pair(Maker.LESS, m.parameter(1), m.number(0)), untaken, taken));
        m.compiles("c is taken", 0, 0, 1);
        Sheet.due("the IF and the SUB", m.x.size(0), 2);
        m.compiles("b is taken", 0, -1, 1);
        Sheet.due("the IF and the ADD", m.x.size(0), 2);

        m = new Maker();
        int call = m.call(1, m.number(3), -1);
        m.function(0, 400, 400, 8, m.pair(Maker.ADD, call, m.number(1)));
        m.function(1, 300, 400, 8, m.pair(Maker.ADD, m.parameter(0), m.number(1)));
        m.compiles("two instances", 0, 0, 2);
        Sheet.due("of the caller", m.x.size(0), 2);
        Sheet.due("of the called", m.x.size(1), 0);
    }

    private static void firstAndLastNode() {
        Maker m = new Maker();
        int first = m.call(1, -1, -1);
        for (int n = 1; n < 59; n++) {
            m.number(n);
        }
        int last = m.pair(Maker.ADD, first, first);
        Sheet.due("the last of 60", last, 59);
        m.function(0, 400, 400, 8, last);
        m.function(1, 400, 400, 8, 7);
        m.compiles("60 nodes", 0, 0, 2);
        Sheet.due("the CALL and the ADD", m.x.size(0), 2);
        Sheet.due("none", m.x.size(1), 0);
    }

    private static void noSuch() {
        Maker m = new Maker();
        m.function(0, 400, 400, 8, m.number(1));
        Sheet.due("before compile", m.x.size(0), -1);
        m.compiles("one", 0, 0, 1);
        Sheet.due("there", m.x.size(0), 0);
        for (int bad : new int[] {Maker.MIN, -1, 1, 19, 20, Maker.MAX}) {
            Sheet.due("instance " + bad, m.x.size(bad), -1);
        }
    }
}
