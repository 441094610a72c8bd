/**
 * A compiler for small functions with parameters that are known while compiling.
 * The words in capitals in the comments are the document's terms.
 */
public final class StagedCompiler {
    public static final int REFUSED = -1;
    public static final int TYPE = -2;
    public static final int RANGE = -3;
    public static final int WIDTH = -4;
    public static final int DIVISION = -5;
    public static final int CALL = -6;
    public static final int QUOTA = -7;
    public static final long NONE = 1000000000000000L;
    public static final long OVERFLOW = 1000000000000001L;
    public static final long BY_ZERO = 1000000000000002L;
    public static final long DEPTH = 1000000000000003L;
    public static final long TIRED = 1000000000000004L;

    private static final int MAX_NODES = 60;
    private static final int MAX_LEVEL = 8;
    private static final int MAX_FUNCTIONS = 8;
    private static final int MAX_INSTANCES = 20;
    private static final int MAX_CALLS_UNDER_WAY = 5;
    private static final int MAX_NODES_RUN = 3000;
    private static final int NO_ERROR = 0;
    private static final int NOWHERE = -1;
    private static final int NO_ARGUMENT = -1;
    private static final int PLACES_PER_FUNCTION = 64;
    private static final int PLACE_OF_COMPILE = 63;

    private final Program program;
    private final Compilation compilation;
    private final Machine machine;

    public StagedCompiler() {
        Program ownProgram = new Program();
        Compilation ownCompilation = new Compilation(ownProgram);
        program = ownProgram;
        compilation = ownCompilation;
        machine = new Machine(ownProgram, ownCompilation.instances);
    }

    public int node(int kind, int a, int b, int c) {
        return program.addNode(kind, a, b, c);
    }

    public int define(int f, int first, int second, int result, int body) {
        return program.addFunction(f, first, second, result, body);
    }

    public int compile(int f, int v, int w) {
        return program.hasFunction(f) ? compilation.compileAll(f, v, w) : REFUSED;
    }

    public int errorAt() {
        return compilation.errorPlace;
    }

    public int functionOf(int i) {
        return compilation.hasInstance(i) ? compilation.instances[i].function : REFUSED;
    }

    public long countOf(int i, int k) {
        if (!compilation.hasInstance(i) || k < 0 || k > 1) {
            return NONE;
        }
        Instance instance = compilation.instances[i];
        return instance.parameterTypes[k] == Types.COUNT ? instance.counts[k] : NONE;
    }

    public int typeOf(int i, int n) {
        if (!compilation.hasInstance(i) || !program.hasNode(n)) {
            return REFUSED;
        }
        return compilation.instances[i].types[n];
    }

    public long known(int i, int n) {
        if (!compilation.hasInstance(i) || !program.hasNode(n)) {
            return NONE;
        }
        Instance instance = compilation.instances[i];
        return instance.isKnown[n] ? instance.values[n] : NONE;
    }

    public int size(int i) {
        if (!compilation.hasInstance(i)) {
            return REFUSED;
        }
        return program.nodesLeftToRun(compilation.instances[i]);
    }

    public long run(int i, int a, int b) {
        if (!compilation.hasInstance(i)) {
            return NONE;
        }
        Instance instance = compilation.instances[i];
        if (!instance.takes(0, a) || !instance.takes(1, b)) {
            return NONE;
        }
        return machine.runBody(instance, a, b);
    }

    public int count(int what) {
        switch (what) {
            case 0:
                return program.nodeCount;
            case 1:
                return program.functionCount;
            case 2:
                return compilation.instanceCount;
            case 3:
                return machine.callsMade;
            default:
                return REFUSED;
        }
    }

    /** The kinds of nodes. */
    private static final class Kind {
        private static final int NUMBER = 0;
        private static final int PARAMETER = 1;
        private static final int ADD = 2;
        private static final int SUB = 3;
        private static final int MUL = 4;
        private static final int DIV = 5;
        private static final int WRAPADD = 6;
        private static final int WRAPSUB = 7;
        private static final int WRAPMUL = 8;
        private static final int CLAMPADD = 9;
        private static final int CLAMPSUB = 10;
        private static final int LESS = 11;
        private static final int SAME = 12;
        private static final int IF = 13;
        private static final int CAST = 14;
        private static final int CALL = 15;
        private static final int WIDTH = 16;

        private Kind() {
        }

        private static boolean isOne(int kind) {
            return kind >= NUMBER && kind <= WIDTH;
        }

        private static boolean isWrapOrClamp(int kind) {
            return kind >= WRAPADD && kind <= CLAMPSUB;
        }

        private static boolean isComparison(int kind) {
            return kind == LESS || kind == SAME;
        }

        private static boolean countsForSize(int kind) {
            return kind >= ADD && kind <= CALL;
        }
    }

    /** TYPE CODEs. A type that was worked out is a code too, but none of 100 + k and 200 + k. */
    private static final class Types {
        private static final int MAX_WIDTH = 31;
        private static final int TRUTH = 0;
        private static final int SIGNED_BY_PARAMETER = 100;
        private static final int UNSIGNED_BY_PARAMETER = 200;
        private static final int COUNT = 300;
        private static final int ABSENT = 400;
        private static final int NO_TYPE = 500;

        private Types() {
        }

        private static boolean isInt(int type) {
            return type != TRUTH && type >= -MAX_WIDTH && type <= MAX_WIDTH;
        }

        private static boolean isByParameter(int code) {
            return code == SIGNED_BY_PARAMETER || code == SIGNED_BY_PARAMETER + 1
                || code == UNSIGNED_BY_PARAMETER || code == UNSIGNED_BY_PARAMETER + 1;
        }

        private static boolean isCastCode(int code) {
            return isInt(code) || isByParameter(code);
        }

        private static boolean isResultCode(int code) {
            return code == TRUTH || isCastCode(code);
        }

        private static boolean isParameterCode(int code) {
            return isResultCode(code) || code == COUNT || code == ABSENT;
        }

        private static long lowest(int type) {
            if (type == COUNT) {
                return -(1L << 31);
            }
            return type > 0 ? -(1L << (type - 1)) : 0;
        }

        private static long highest(int type) {
            if (type == COUNT) {
                return 1L << 31;
            }
            if (type == TRUTH) {
                return 1;
            }
            return type > 0 ? (1L << (type - 1)) - 1 : (1L << -type) - 1;
        }

        private static boolean holds(int type, long value) {
            return value >= lowest(type) && value <= highest(type);
        }
    }

    /** ARITHMETIC: the result of kinds 2 .. 12 in a type, or OVERFLOW or BY_ZERO. */
    private static final class Arithmetic {
        private Arithmetic() {
        }

        private static boolean isTrap(long answer) {
            return answer > NONE;
        }

        private static long work(int kind, int type, long x, long y) {
            switch (kind) {
                case Kind.ADD:
                    return checked(type, x + y);
                case Kind.SUB:
                    return checked(type, x - y);
                case Kind.MUL:
                    return checked(type, x * y);
                case Kind.DIV:
                    return y == 0 ? BY_ZERO : checked(type, x / y);
                case Kind.WRAPADD:
                    return wrapped(type, x + y);
                case Kind.WRAPSUB:
                    return wrapped(type, x - y);
                case Kind.WRAPMUL:
                    return wrapped(type, x * y);
                case Kind.CLAMPADD:
                    return clamped(type, x + y);
                case Kind.CLAMPSUB:
                    return clamped(type, x - y);
                case Kind.LESS:
                    return x < y ? 1 : 0;
                default:
                    return x == y ? 1 : 0;
            }
        }

        private static long checked(int type, long exact) {
            return Types.holds(type, exact) ? exact : OVERFLOW;
        }

        private static long wrapped(int type, long exact) {
            int unused = 64 - Math.abs(type);
            return type > 0 ? exact << unused >> unused : exact << unused >>> unused;
        }

        private static long clamped(int type, long exact) {
            return Math.max(Types.lowest(type), Math.min(Types.highest(type), exact));
        }
    }

    /** The NODES and FUNCTIONS as they were given. */
    private static final class Program {
        private final int[] kinds = new int[MAX_NODES];
        private final int[] as = new int[MAX_NODES];
        private final int[] bs = new int[MAX_NODES];
        private final int[] cs = new int[MAX_NODES];
        private final int[] levels = new int[MAX_NODES];
        private final boolean[] isDefined = new boolean[MAX_FUNCTIONS];
        private final int[] firsts = new int[MAX_FUNCTIONS];
        private final int[] seconds = new int[MAX_FUNCTIONS];
        private final int[] results = new int[MAX_FUNCTIONS];
        private final int[] bodies = new int[MAX_FUNCTIONS];
        private int nodeCount;
        private int functionCount;

        private Program() {
            nodeCount = 0;
            functionCount = 0;
        }

        private boolean hasNode(int n) {
            return n >= 0 && n < nodeCount;
        }

        private boolean hasFunction(int f) {
            return f >= 0 && f < MAX_FUNCTIONS && isDefined[f];
        }

        private int addNode(int kind, int a, int b, int c) {
            if (nodeCount >= MAX_NODES || !Kind.isOne(kind) || !hasOperands(kind, a, b, c)) {
                return REFUSED;
            }
            int level = levelAbove(kind, a, b, c);
            if (level > MAX_LEVEL) {
                return REFUSED;
            }
            int n = nodeCount;
            kinds[n] = kind;
            as[n] = a;
            bs[n] = b;
            cs[n] = c;
            levels[n] = level;
            nodeCount = n + 1;
            return n;
        }

        private boolean hasOperands(int kind, int a, int b, int c) {
            switch (kind) {
                case Kind.NUMBER:
                    return true;
                case Kind.PARAMETER:
                    return a == 0 || a == 1;
                case Kind.IF:
                    return hasNode(a) && hasNode(b) && hasNode(c);
                case Kind.CAST:
                    return hasNode(a) && Types.isCastCode(b);
                case Kind.CALL:
                    return a >= 0 && a < MAX_FUNCTIONS && mayBeArgument(b) && mayBeArgument(c);
                case Kind.WIDTH:
                    return hasNode(a);
                default:
                    return hasNode(a) && hasNode(b);
            }
        }

        private boolean mayBeArgument(int n) {
            return n == NO_ARGUMENT || hasNode(n);
        }

        private int levelAbove(int kind, int a, int b, int c) {
            switch (kind) {
                case Kind.NUMBER:
                case Kind.PARAMETER:
                    return 1;
                case Kind.IF:
                    return 1 + Math.max(levels[a], Math.max(levels[b], levels[c]));
                case Kind.CAST:
                case Kind.WIDTH:
                    return 1 + levels[a];
                case Kind.CALL:
                    return 1 + Math.max(levelOfArgument(b), levelOfArgument(c));
                default:
                    return 1 + Math.max(levels[a], levels[b]);
            }
        }

        private int levelOfArgument(int n) {
            return n == NO_ARGUMENT ? 0 : levels[n];
        }

        private int addFunction(int f, int first, int second, int result, int body) {
            if (f < 0 || f >= MAX_FUNCTIONS || isDefined[f] || !hasNode(body)) {
                return REFUSED;
            }
            if (!Types.isParameterCode(first) || !Types.isParameterCode(second)
                || !Types.isResultCode(result)) {
                return REFUSED;
            }
            isDefined[f] = true;
            firsts[f] = first;
            seconds[f] = second;
            results[f] = result;
            bodies[f] = body;
            functionCount++;
            return 0;
        }

        private int nodesLeftToRun(Instance instance) {
            int left = 0;
            for (int n = 0; n < nodeCount; n++) {
                if (Kind.countsForSize(kinds[n]) && instance.wasLookedAt(n) && !instance.isKnown[n]) {
                    left++;
                }
            }
            return left;
        }
    }

    /** AN INSTANCE, with what was found for each node in it. */
    private static final class Instance {
        private int function;
        private int resultType;
        private final int[] parameterTypes = new int[2];
        private final long[] counts = new long[2];
        private final int[] types = new int[MAX_NODES];
        private final boolean[] isKnown = new boolean[MAX_NODES];
        private final long[] values = new long[MAX_NODES];
        private final int[] callees = new int[MAX_NODES];

        private Instance() {
            function = 0;
            resultType = Types.NO_TYPE;
        }

        /** Makes this instance anew; false if a type of its face has no good width. */
        private boolean begin(Program program, int f, long v, long w) {
            function = f;
            counts[0] = v;
            counts[1] = w;
            for (int n = 0; n < MAX_NODES; n++) {
                types[n] = Types.ABSENT;
                isKnown[n] = false;
            }
            parameterTypes[0] = program.firsts[f];
            parameterTypes[1] = program.seconds[f];
            parameterTypes[0] = typeByCode(parameterTypes[0]);
            parameterTypes[1] = typeByCode(parameterTypes[1]);
            resultType = typeByCode(program.results[f]);
            return parameterTypes[0] != Types.NO_TYPE && parameterTypes[1] != Types.NO_TYPE
                && resultType != Types.NO_TYPE;
        }

        private int typeByCode(int code) {
            if (!Types.isByParameter(code)) {
                return code;
            }
            boolean signed = code < Types.UNSIGNED_BY_PARAMETER;
            int k = code - (signed ? Types.SIGNED_BY_PARAMETER : Types.UNSIGNED_BY_PARAMETER);
            if (parameterTypes[k] != Types.COUNT || counts[k] < 1 || counts[k] > Types.MAX_WIDTH) {
                return Types.NO_TYPE;
            }
            return signed ? (int) counts[k] : -(int) counts[k];
        }

        private boolean isOf(int f, long v, long w) {
            return function == f && hasCount(0, v) && hasCount(1, w);
        }

        private boolean hasCount(int k, long value) {
            return parameterTypes[k] != Types.COUNT || counts[k] == value;
        }

        /** Whether parameter k is one that a run brings a value for. */
        private boolean isRunParameter(int k) {
            return parameterTypes[k] != Types.COUNT && parameterTypes[k] != Types.ABSENT;
        }

        private boolean takes(int k, long argument) {
            return !isRunParameter(k) || Types.holds(parameterTypes[k], argument);
        }

        private boolean wasLookedAt(int n) {
            return types[n] != Types.ABSENT;
        }

        private boolean find(int n, int type) {
            types[n] = type;
            return true;
        }

        private boolean findKnown(int n, int type, long value) {
            types[n] = type;
            isKnown[n] = true;
            values[n] = value;
            return true;
        }

        private boolean findSameAs(int n, int other) {
            types[n] = types[other];
            isKnown[n] = isKnown[other];
            values[n] = values[other];
            return true;
        }
    }

    /**
     * COMPILING: the instances of the last compile and its error. Methods that answer a boolean
     * answer false once the first error was told; LOOKING AT goes no deeper than MAX_LEVEL, as
     * operands have smaller levels and addNode refuses greater ones.
     */
    private static final class Compilation {
        private final Program program;
        private final Instance[] instances;
        private int instanceCount;
        private int error;
        private int errorPlace;

        private Compilation(Program program) {
            this.program = program;
            instances = new Instance[MAX_INSTANCES];
            for (int i = 0; i < MAX_INSTANCES; i++) {
                instances[i] = new Instance();
            }
            instanceCount = 0;
            error = NO_ERROR;
            errorPlace = NOWHERE;
        }

        private boolean hasInstance(int i) {
            return i >= 0 && i < instanceCount;
        }

        private int compileAll(int f, long v, long w) {
            instanceCount = 0;
            error = NO_ERROR;
            errorPlace = NOWHERE;
            int wanted = want(f, v, w);
            boolean fine = wanted >= 0 || fail(f, PLACE_OF_COMPILE, wanted);
            for (int i = 0; fine && i < instanceCount && i < MAX_INSTANCES; i++) {
                Instance in = instances[i];
                int body = program.bodies[in.function];
                fine = look(in, body) && passes(in, body, body, in.resultType);
            }
            if (!fine) {
                instanceCount = 0;
                return error;
            }
            return instanceCount;
        }

        private boolean fail(int function, int place, int newError) {
            error = newError;
            errorPlace = PLACES_PER_FUNCTION * function + place;
            return false;
        }

        /** The number of the instance, which is made if there is none like it, or an error. */
        private int want(int f, long v, long w) {
            for (int i = 0; i < instanceCount; i++) {
                if (instances[i].isOf(f, v, w)) {
                    return i;
                }
            }
            if (instanceCount >= MAX_INSTANCES) {
                return QUOTA;
            }
            if (!instances[instanceCount].begin(program, f, v, w)) {
                return WIDTH;
            }
            instanceCount++;
            return instanceCount - 1;
        }

        /** Whether node n may stand where a value of the type is due; errors are told at the place. */
        private boolean passes(Instance in, int place, int n, int type) {
            if (in.types[n] == type) {
                return true;
            }
            if (in.types[n] != Types.COUNT || !Types.isInt(type)) {
                return fail(in.function, place, TYPE);
            }
            return Types.holds(type, in.values[n]) || fail(in.function, place, RANGE);
        }

        private boolean look(Instance in, int n) {
            if (in.wasLookedAt(n)) {
                return true;
            }
            switch (program.kinds[n]) {
                case Kind.NUMBER:
                    return in.findKnown(n, Types.COUNT, program.as[n]);
                case Kind.PARAMETER:
                    return lookAtParameter(in, n);
                case Kind.IF:
                    return lookAtIf(in, n);
                case Kind.CAST:
                    return lookAtCast(in, n);
                case Kind.CALL:
                    return lookAtCall(in, n);
                case Kind.WIDTH:
                    return lookAtWidth(in, n);
                default:
                    return lookAtPair(in, n);
            }
        }

        private boolean lookAtParameter(Instance in, int n) {
            int k = program.as[n];
            int type = in.parameterTypes[k];
            if (type == Types.ABSENT) {
                return fail(in.function, n, TYPE);
            }
            return type == Types.COUNT ? in.findKnown(n, type, in.counts[k]) : in.find(n, type);
        }

        private boolean lookAtPair(Instance in, int n) {
            int kind = program.kinds[n];
            int a = program.as[n];
            int b = program.bs[n];
            if (!look(in, a) || !look(in, b) || !fits(in, n, a, b)) {
                return false;
            }
            int type = fittedType(in, a, b);
            if (type == Types.TRUTH && kind != Kind.SAME
                || type == Types.COUNT && Kind.isWrapOrClamp(kind)) {
                return fail(in.function, n, TYPE);
            }
            int found = Kind.isComparison(kind) ? Types.TRUTH : type;
            if (!in.isKnown[a] || !in.isKnown[b]) {
                return in.find(n, found);
            }
            long value = Arithmetic.work(kind, type, in.values[a], in.values[b]);
            if (Arithmetic.isTrap(value)) {
                return fail(in.function, n, value == BY_ZERO ? DIVISION : RANGE);
            }
            return in.findKnown(n, found, value);
        }

        /** FITTING nodes a and b together, for node n. */
        private boolean fits(Instance in, int n, int a, int b) {
            return in.types[a] == Types.COUNT
                ? passes(in, n, a, in.types[b])
                : passes(in, n, b, in.types[a]);
        }

        /** Of two nodes that fit: a COUNT counts as of the other's type. */
        private int fittedType(Instance in, int a, int b) {
            return in.types[a] == Types.COUNT ? in.types[b] : in.types[a];
        }

        private boolean lookAtIf(Instance in, int n) {
            int a = program.as[n];
            int b = program.bs[n];
            int c = program.cs[n];
            if (!look(in, a)) {
                return false;
            }
            if (in.types[a] != Types.TRUTH) {
                return fail(in.function, n, TYPE);
            }
            if (in.isKnown[a]) {
                int taken = in.values[a] != 0 ? b : c;
                return look(in, taken) && in.findSameAs(n, taken);
            }
            if (!look(in, b) || !look(in, c) || !fits(in, n, b, c)) {
                return false;
            }
            int type = fittedType(in, b, c);
            return type == Types.COUNT ? fail(in.function, n, TYPE) : in.find(n, type);
        }

        private boolean lookAtCast(Instance in, int n) {
            int a = program.as[n];
            if (!look(in, a)) {
                return false;
            }
            if (in.types[a] == Types.TRUTH) {
                return fail(in.function, n, TYPE);
            }
            int type = in.typeByCode(program.bs[n]);
            if (type == Types.NO_TYPE) {
                return fail(in.function, n, WIDTH);
            }
            if (!in.isKnown[a]) {
                return in.find(n, type);
            }
            return Types.holds(type, in.values[a])
                ? in.findKnown(n, type, in.values[a])
                : fail(in.function, n, RANGE);
        }

        private boolean lookAtCall(Instance in, int n) {
            int f = program.as[n];
            int b = program.bs[n];
            int c = program.cs[n];
            if (!program.hasFunction(f) || !isGivenAsDue(b, program.firsts[f])
                || !isGivenAsDue(c, program.seconds[f])) {
                return fail(in.function, n, CALL);
            }
            if (b != NO_ARGUMENT && !look(in, b) || c != NO_ARGUMENT && !look(in, c)) {
                return false;
            }
            if (!isCountIfDue(in, b, program.firsts[f]) || !isCountIfDue(in, c, program.seconds[f])) {
                return fail(in.function, n, TYPE);
            }
            int wanted = want(f, valueOfArgument(in, b), valueOfArgument(in, c));
            if (wanted < 0) {
                return fail(in.function, n, wanted);
            }
            Instance callee = instances[wanted];
            if (!passesArgument(in, n, b, callee.parameterTypes[0])
                || !passesArgument(in, n, c, callee.parameterTypes[1])) {
                return false;
            }
            in.callees[n] = wanted;
            return in.find(n, callee.resultType);
        }

        private boolean isGivenAsDue(int argument, int code) {
            return (argument != NO_ARGUMENT) == (code != Types.ABSENT);
        }

        private boolean isCountIfDue(Instance in, int argument, int code) {
            return code != Types.COUNT || argument != NO_ARGUMENT && in.types[argument] == Types.COUNT;
        }

        /** What want gets for an argument; it looks at those for COUNT parameters alone. */
        private long valueOfArgument(Instance in, int argument) {
            return argument != NO_ARGUMENT && in.isKnown[argument] ? in.values[argument] : 0;
        }

        private boolean passesArgument(Instance in, int n, int argument, int type) {
            return argument == NO_ARGUMENT || passes(in, n, argument, type);
        }

        private boolean lookAtWidth(Instance in, int n) {
            int a = program.as[n];
            if (!look(in, a)) {
                return false;
            }
            int type = in.types[a];
            return Types.isInt(type)
                ? in.findKnown(n, Types.COUNT, Math.abs(type))
                : fail(in.function, n, TYPE);
        }
    }

    /**
     * RUNNING. No value of a type is as great as a TRAP, so a TRAP is handed up as an answer. Nodes
     * stand open at most MAX_LEVEL deep in each of the bodies of a run and of MAX_CALLS_UNDER_WAY.
     */
    private static final class Machine {
        private final Program program;
        private final Instance[] instances;
        private int nodesRun;
        private int callsMade;

        private Machine(Program program, Instance[] instances) {
            this.program = program;
            this.instances = instances;
            nodesRun = 0;
            callsMade = 0;
        }

        private long runBody(Instance in, long x, long y) {
            nodesRun = 0;
            callsMade = 0;
            return runNode(in, program.bodies[in.function], x, y, 0);
        }

        /** Runs node n with the arguments x and y, so many calls being under way. */
        private long runNode(Instance in, int n, long x, long y, int underWay) {
            if (nodesRun >= MAX_NODES_RUN) {
                return TIRED;
            }
            nodesRun++;
            if (in.isKnown[n]) {
                return in.values[n];
            }
            switch (program.kinds[n]) {
                case Kind.PARAMETER:
                    return program.as[n] == 0 ? x : y;
                case Kind.IF:
                    return runIf(in, n, x, y, underWay);
                case Kind.CAST:
                    return runCast(in, n, x, y, underWay);
                case Kind.CALL:
                    return runCall(in, n, x, y, underWay);
                default:
                    return runPair(in, n, x, y, underWay);
            }
        }

        private long runPair(Instance in, int n, long x, long y, int underWay) {
            long left = runNode(in, program.as[n], x, y, underWay);
            if (Arithmetic.isTrap(left)) {
                return left;
            }
            long right = runNode(in, program.bs[n], x, y, underWay);
            if (Arithmetic.isTrap(right)) {
                return right;
            }
            return Arithmetic.work(program.kinds[n], in.types[n], left, right);
        }

        private long runIf(Instance in, int n, long x, long y, int underWay) {
            int a = program.as[n];
            long condition = in.isKnown[a] ? in.values[a] : runNode(in, a, x, y, underWay);
            if (Arithmetic.isTrap(condition)) {
                return condition;
            }
            int taken = condition != 0 ? program.bs[n] : program.cs[n];
            return runNode(in, taken, x, y, underWay);
        }

        private long runCast(Instance in, int n, long x, long y, int underWay) {
            long value = runNode(in, program.as[n], x, y, underWay);
            return Arithmetic.isTrap(value) ? value : Arithmetic.checked(in.types[n], value);
        }

        private long runCall(Instance in, int n, long x, long y, int underWay) {
            if (underWay >= MAX_CALLS_UNDER_WAY) {
                return DEPTH;
            }
            Instance callee = instances[in.callees[n]];
            long first = callee.isRunParameter(0) ? runNode(in, program.bs[n], x, y, underWay) : 0;
            if (Arithmetic.isTrap(first)) {
                return first;
            }
            long second = callee.isRunParameter(1) ? runNode(in, program.cs[n], x, y, underWay) : 0;
            if (Arithmetic.isTrap(second)) {
                return second;
            }
            callsMade++;
            return runNode(callee, program.bodies[callee.function], first, second, underWay + 1);
        }
    }
}
