import com.sun.management.ThreadMXBean;
import java.lang.management.ManagementFactory;

/**
 * All calls of a run live in one room, so the constructor makes all rows and no call makes an
 * object: what this thread was given is asked of the Java machine, where it can tell.
 */
public final class RoomTest {
    private static final int OBJECTS = 200;
    private static final int CALLS = 500;
    private static final long MOST_BYTES_OF_AN_OBJECT = 64 * 1024;
    /** For what the measure itself and the machine's own linking of code take. */
    private static final long SLACK = 64 * 1024;

    private static final ThreadMXBean MACHINE = (ThreadMXBean) ManagementFactory.getThreadMXBean();

    public static void main(String[] args) {
        Sheet.test("The room: a new object is small", RoomTest::newObject);
        Sheet.test("The room: no call makes an object", RoomTest::calls);
        Sheet.finish();
    }

    private static long given() {
        boolean told = MACHINE.isThreadAllocatedMemorySupported() && MACHINE.isThreadAllocatedMemoryEnabled();
        return told ? MACHINE.getThreadAllocatedBytes(Thread.currentThread().getId()) : 0;
    }

    private static void newObject() {
        given();
        int nodes = 0;
        long before = given();
        for (int i = 0; i < OBJECTS; i++) {
            nodes += new StagedCompiler().count(0);
        }
        long taken = given() - before;
        Sheet.due("nodes", nodes, 0);
        Sheet.due(taken + " bytes are few", taken <= OBJECTS * MOST_BYTES_OF_AN_OBJECT ? 1 : 0, 1);
    }

    /** Power with the exponent known: 20 instances, 19 calls of which the sixth is the TRAP DEPTH. */
    private static void power(Maker m) {
        int exponent = m.parameter(0);
        int base = m.parameter(1);
        int one = m.number(1);
        int rest = m.call(0, m.pair(Maker.SUB, exponent, one), base);
        int body = m.choose(m.pair(Maker.LESS, exponent, one), one, m.pair(Maker.MUL, base, rest));
        m.function(0, 300, 16, 16, body);
        m.compiles("power", 19, 0, 20);
        Sheet.due("run", m.x.run(0, 0, 1), StagedCompiler.DEPTH);
    }

    private static void calls() {
        Maker m = new Maker();
        power(m);
        given();
        long answers = 0;
        long before = given();
        for (int i = 0; i < CALLS; i += 10) {
            answers += m.x.compile(0, 19, 0) + m.x.errorAt() + m.x.functionOf(19) + m.x.countOf(19, 0)
                + m.x.typeOf(0, 1) + m.x.known(0, 1) + m.x.size(0) + m.x.run(0, 0, 1) + m.x.count(3)
                + m.x.node(0, 0, 0, 0);
        }
        long taken = given() - before;
        Sheet.due("answers were given", answers != 0 ? 1 : 0, 1);
        Sheet.due(taken + " bytes are none but the machine's own", taken <= SLACK ? 1 : 0, 1);
    }
}
