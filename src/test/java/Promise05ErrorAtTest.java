/** Promise 5: errorAt. */
public final class Promise05ErrorAtTest {
    public static void main(String[] args) {
        changesWithCompileAlone();
        widths();
        functions();
        innermost();
        underEachOperand();
        Sheet.finish();
    }

    private static void changesWithCompileAlone() {
        Maker m = new Maker();
        Sheet.due("at first", m.x.errorAt(), -1);
        m.function(0, 400, 400, 8, m.number(500));
        m.function(1, 400, 400, 8, m.number(5));
        Sheet.due("refused at first", m.x.compile(5, 0, 0), -1);
        Sheet.due("still none", m.x.errorAt(), -1);
        m.fails("bad", 0, 0, StagedCompiler.RANGE, 0, 0);
        Sheet.due("asked again", m.x.errorAt(), 0);
        Sheet.due("refused", m.x.compile(8, 0, 0), -1);
        Sheet.due("refused", m.x.compile(2, 0, 0), -1);
        Sheet.due("stays", m.x.errorAt(), 0);
        m.x.run(0, 0, 0);
        m.x.node(99, 0, 0, 0);
        m.x.node(0, 1, 0, 0);
        Sheet.due("stays", m.x.errorAt(), 0);
        Sheet.due("good", m.x.compile(1, 0, 0), 1);
        Sheet.due("none", m.x.errorAt(), -1);
        Sheet.due("refused", m.x.compile(7, 0, 0), -1);
        Sheet.due("none", m.x.errorAt(), -1);
    }

    private static void widths() {
        for (int f = 0; f < 8; f++) {
            StagedCompiler x = new StagedCompiler();
            x.node(0, 1, 0, 0);
            x.define(f, 300, 400, 100, 0);
            Sheet.due("compile", x.compile(f, 32, 0), StagedCompiler.WIDTH);
            Sheet.due("compile's own", x.errorAt(), 64 * f + 63);
        }
        Maker m = new Maker();
        int n = m.call(2, m.number(0), -1);
        m.function(0, 400, 400, 8, m.call(1, -1, -1));
        m.function(1, 400, 400, 8, n);
        m.function(2, 300, 400, 100, m.number(1));
        m.fails("a CALL's, in the function that it stands in", 0, 0, StagedCompiler.WIDTH, 1, n);
    }

    private static void functions() {
        Maker m = new Maker();
        int shared = m.pair(Maker.ADD, m.parameter(0), m.number(200));
        m.function(0, -8, 400, -8, m.pair(Maker.ADD, shared, m.call(5, m.number(1), -1)));
        m.function(5, 8, 400, -8, shared);
        m.fails("a node that is fine in one function and not in another", 0, 0, StagedCompiler.RANGE, 5, shared);

        m = new Maker();
        int body = m.parameter(0);
        m.function(0, 8, 400, 9, m.call(7, m.number(1), -1));
        m.function(7, 8, 400, 9, body);
        m.fails("at the body", 0, 0, StagedCompiler.TYPE, 7, body);
    }

    private static void innermost() {
        Maker m = new Maker();
        int bad = m.pair(Maker.ADD, m.number(Maker.MAX), m.number(Maker.MAX));
        int inCast = m.cast(bad, 8);
        m.function(0, 400, 400, 8, m.choose(m.yes(), m.pair(Maker.ADD, inCast, inCast), m.number(1)));
        m.fails("the node that was being looked at", 0, 0, StagedCompiler.RANGE, 0, bad);
    }

    /** A node that is bad under each operand of each kind is where the error is, not what is above. */
    private static void underEachOperand() {
        for (int kind = 2; kind <= 16; kind++) {
            for (int place = 0; place < 3; place++) {
                boolean isOperand = kind == 13 || kind <= 12 && place < 2
                    || kind == 14 && place == 0 || kind == 15 && place > 0 || kind == 16 && place == 0;
                if (isOperand) {
                    underOperand(kind, place);
                }
            }
        }
    }

    private static void underOperand(int kind, int place) {
        Maker m = new Maker();
        int good = m.parameter(0);
        int bad = m.pair(Maker.DIV, m.number(1), m.number(0));
        int[] operands = {good, good, good};
        if (kind == 13) {
            operands[0] = m.pair(Maker.LESS, good, good);
        } else if (kind == 14) {
            operands[1] = 8;
        } else if (kind == 15) {
            operands[0] = 1;
        }
        operands[place] = bad;
        int n = m.x.node(kind, operands[0], operands[1], operands[2]);
        m.function(0, 8, 400, 8, n);
        m.function(1, 8, 8, 8, good);
        String what = "operand " + place + " of kind " + kind;
        m.fails(what, 0, 0, StagedCompiler.DIVISION, 0, bad);
    }
}
