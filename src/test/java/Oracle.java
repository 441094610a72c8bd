import java.math.BigInteger;
import java.util.ArrayList;
import java.util.HashMap;
import java.util.List;
import java.util.Map;

/**
 * The document told a second time, in another way than the class tells it: with objects, maps,
 * great numbers and exceptions. OracleTest compares the two on random runs of calls.
 */
final class Oracle {
    private record Node(int number, int kind, int a, int b, int c, int level) {
    }

    private record Function(int number, int[] codes, int result, int body) {
    }

    /** What was found for a node; value is null if it is not KNOWN. */
    private record Found(int type, BigInteger value, Instance callee) {
    }

    private static final class Instance {
        final Function function;
        final BigInteger[] counts = new BigInteger[2];
        final Map<Integer, Found> found = new HashMap<>();
        final int[] types = new int[2];
        int result;

        Instance(Function function) {
            this.function = function;
        }
    }

    private static final class Stop extends RuntimeException {
        private static final long serialVersionUID = 1L;
        final long code;
        final int place;

        Stop(long code, int place) {
            super(null, null, false, false);
            this.code = code;
            this.place = place;
        }
    }

    private static final int COUNT = 300;
    private static final int ABSENT = 400;

    private final List<Node> nodes = new ArrayList<>();
    private final Map<Integer, Function> functions = new HashMap<>();
    private final List<Instance> instances = new ArrayList<>();
    private int errorAt = -1;
    private int lastCalls = 0;
    private int steps;
    private int calls;

    private static boolean isInt(int type) {
        return type != 0 && Math.abs((long) type) <= 31;
    }

    private static boolean isSized(int code) {
        return isInt(code) || List.of(100, 101, 200, 201).contains(code);
    }

    private boolean isNode(int n) {
        return 0 <= n && n < nodes.size();
    }

    int node(int kind, int a, int b, int c) {
        if (kind < 0 || kind > 16 || nodes.size() == 60) {
            return -1;
        }
        List<Integer> operands = new ArrayList<>();
        if (kind == 1 && a != 0 && a != 1 || kind == 15 && (a < 0 || a > 7) || kind == 14 && !isSized(b)) {
            return -1;
        }
        if (kind >= 2 && kind != 15) {
            operands.add(a);
        }
        if (kind >= 2 && kind <= 13 || kind == 15 && b != -1) {
            operands.add(b);
        }
        if (kind == 13 || kind == 15 && c != -1) {
            operands.add(c);
        }
        int level = 1;
        for (int operand : operands) {
            if (!isNode(operand)) {
                return -1;
            }
            level = Math.max(level, nodes.get(operand).level + 1);
        }
        if (level == 9) {
            return -1;
        }
        nodes.add(new Node(nodes.size(), kind, a, b, c, level));
        return nodes.size() - 1;
    }

    int define(int f, int first, int second, int result, int body) {
        boolean good = f >= 0 && f <= 7 && !functions.containsKey(f) && isNode(body)
            && (result == 0 || isSized(result));
        for (int code : new int[] {first, second}) {
            good = good && (code == 0 || code == COUNT || code == ABSENT || isSized(code));
        }
        if (!good) {
            return -1;
        }
        functions.put(f, new Function(f, new int[] {first, second}, result, body));
        return 0;
    }

    int compile(int f, int v, int w) {
        if (!functions.containsKey(f)) {
            return -1;
        }
        instances.clear();
        errorAt = -1;
        try {
            want(functions.get(f), new BigInteger[] {BigInteger.valueOf(v), BigInteger.valueOf(w)}, 64 * f + 63);
            for (int i = 0; i < instances.size(); i++) {
                compileOne(instances.get(i));
            }
            return instances.size();
        } catch (Stop stop) {
            instances.clear();
            errorAt = stop.place;
            return (int) stop.code;
        }
    }

    private Instance want(Function function, BigInteger[] values, int place) {
        for (Instance there : instances) {
            boolean same = there.function == function;
            for (int k = 0; k < 2; k++) {
                same = same && (function.codes[k] != COUNT || there.counts[k].equals(values[k]));
            }
            if (same) {
                return there;
            }
        }
        if (instances.size() == 20) {
            throw new Stop(StagedCompiler.QUOTA, place);
        }
        Instance made = new Instance(function);
        for (int k = 0; k < 2; k++) {
            made.counts[k] = function.codes[k] == COUNT ? values[k] : null;
        }
        for (int k = 0; k < 2; k++) {
            made.types[k] = type(made, function.codes[k], place);
        }
        made.result = type(made, function.result, place);
        instances.add(made);
        return made;
    }

    private static int type(Instance in, int code, int place) {
        if (code < 100 || code >= 300) {
            return code;
        }
        BigInteger width = in.counts[code % 100];
        if (width == null || width.signum() <= 0 || width.compareTo(BigInteger.valueOf(31)) > 0) {
            throw new Stop(StagedCompiler.WIDTH, place);
        }
        return code >= 200 ? -width.intValue() : width.intValue();
    }

    private static BigInteger low(int type) {
        return type == COUNT ? BigInteger.TWO.pow(31).negate()
            : type > 0 ? BigInteger.TWO.pow(type - 1).negate() : BigInteger.ZERO;
    }

    private static BigInteger high(int type) {
        return type == COUNT ? BigInteger.TWO.pow(31)
            : type == 0 ? BigInteger.ONE
            : BigInteger.TWO.pow(type > 0 ? type - 1 : -type).subtract(BigInteger.ONE);
    }

    private static boolean in(int type, BigInteger value) {
        return value.compareTo(low(type)) >= 0 && value.compareTo(high(type)) <= 0;
    }

    private void compileOne(Instance in) {
        int body = in.function.body;
        Found found = look(in, body);
        int place = 64 * in.function.number + body;
        if (found.type == COUNT && isInt(in.result)) {
            demand(in(in.result, found.value), StagedCompiler.RANGE, place);
        } else {
            demand(found.type == in.result, StagedCompiler.TYPE, place);
        }
    }

    private static void demand(boolean good, int error, int place) {
        if (!good) {
            throw new Stop(error, place);
        }
    }

    private Found look(Instance in, int n) {
        Found before = in.found.get(n);
        if (before != null) {
            return before;
        }
        Found found = lookAnew(in, nodes.get(n), 64 * in.function.number + n);
        in.found.put(n, found);
        return found;
    }

    private Found lookAnew(Instance in, Node n, int place) {
        switch (n.kind) {
            case 0:
                return new Found(COUNT, BigInteger.valueOf(n.a), null);
            case 1:
                demand(in.types[n.a] != ABSENT, StagedCompiler.TYPE, place);
                return new Found(in.types[n.a], in.counts[n.a], null);
            case 13:
                return lookIf(in, n, place);
            case 14: {
                Found a = look(in, n.a);
                demand(a.type != 0, StagedCompiler.TYPE, place);
                int type = type(in, n.b, place);
                demand(a.value == null || in(type, a.value), StagedCompiler.RANGE, place);
                return new Found(type, a.value, null);
            }
            case 15:
                return lookCall(in, n, place);
            case 16: {
                Found a = look(in, n.a);
                demand(isInt(a.type), StagedCompiler.TYPE, place);
                return new Found(COUNT, BigInteger.valueOf(Math.abs(a.type)), null);
            }
            default:
                return lookPair(in, n, place);
        }
    }

    private Found lookPair(Instance in, Node n, int place) {
        Found a = look(in, n.a);
        Found b = look(in, n.b);
        int type = fit(a, b, place);
        demand(type != 0 || n.kind == 12, StagedCompiler.TYPE, place);
        demand(type != COUNT || n.kind < 6 || n.kind > 10, StagedCompiler.TYPE, place);
        BigInteger value = null;
        if (a.value != null && b.value != null) {
            try {
                value = arithmetic(n.kind, type, a.value, b.value);
            } catch (Stop stop) {
                int error = stop.code == StagedCompiler.OVERFLOW ? StagedCompiler.RANGE : StagedCompiler.DIVISION;
                throw new Stop(error, place);
            }
        }
        return new Found(n.kind >= 11 ? 0 : type, value, null);
    }

    private static int fit(Found a, Found b, int place) {
        if (a.type == b.type) {
            return a.type;
        }
        if (b.type == COUNT) {
            return fit(b, a, place);
        }
        demand(a.type == COUNT && isInt(b.type), StagedCompiler.TYPE, place);
        demand(in(b.type, a.value), StagedCompiler.RANGE, place);
        return b.type;
    }

    private Found lookIf(Instance in, Node n, int place) {
        Found a = look(in, n.a);
        demand(a.type == 0, StagedCompiler.TYPE, place);
        if (a.value != null) {
            Found taken = look(in, a.value.signum() != 0 ? n.b : n.c);
            return new Found(taken.type, taken.value, null);
        }
        Found b = look(in, n.b);
        Found c = look(in, n.c);
        int type = fit(b, c, place);
        demand(type != COUNT, StagedCompiler.TYPE, place);
        return new Found(type, null, null);
    }

    private Found lookCall(Instance in, Node n, int place) {
        Function function = functions.get(n.a);
        demand(function != null, StagedCompiler.CALL, place);
        int[] arguments = {n.b, n.c};
        for (int k = 0; k < 2; k++) {
            demand(arguments[k] == -1 == (function.codes[k] == ABSENT), StagedCompiler.CALL, place);
        }
        Found[] found = new Found[2];
        for (int k = 0; k < 2; k++) {
            found[k] = arguments[k] == -1 ? null : look(in, arguments[k]);
        }
        BigInteger[] values = new BigInteger[2];
        for (int k = 0; k < 2; k++) {
            if (function.codes[k] == COUNT) {
                demand(found[k].type == COUNT, StagedCompiler.TYPE, place);
                values[k] = found[k].value;
            }
        }
        Instance callee = want(function, values, place);
        for (int k = 0; k < 2; k++) {
            if (found[k] == null || function.codes[k] == COUNT) {
                continue;
            }
            if (isInt(callee.types[k]) && found[k].type == COUNT) {
                demand(in(callee.types[k], found[k].value), StagedCompiler.RANGE, place);
            } else {
                demand(found[k].type == callee.types[k], StagedCompiler.TYPE, place);
            }
        }
        return new Found(callee.result, null, callee);
    }

    private static BigInteger arithmetic(int kind, int type, BigInteger x, BigInteger y) {
        if (kind == 11 || kind == 12) {
            int order = x.compareTo(y);
            return (kind == 11 ? order < 0 : order == 0) ? BigInteger.ONE : BigInteger.ZERO;
        }
        if (kind == 5 && y.signum() == 0) {
            throw new Stop(StagedCompiler.BY_ZERO, 0);
        }
        BigInteger exact = switch (kind) {
            case 2, 6, 9 -> x.add(y);
            case 3, 7, 10 -> x.subtract(y);
            case 4, 8 -> x.multiply(y);
            default -> x.divide(y);
        };
        if (kind >= 9) {
            return exact.max(low(type)).min(high(type));
        }
        if (kind >= 6) {
            return exact.subtract(low(type)).mod(BigInteger.TWO.pow(Math.abs(type))).add(low(type));
        }
        return checked(type, exact);
    }

    private static BigInteger checked(int type, BigInteger exact) {
        if (!in(type, exact)) {
            throw new Stop(StagedCompiler.OVERFLOW, 0);
        }
        return exact;
    }

    private Instance instance(int i) {
        return i >= 0 && i < instances.size() ? instances.get(i) : null;
    }

    int errorAt() {
        return errorAt;
    }

    int functionOf(int i) {
        return instance(i) == null ? -1 : instance(i).function.number;
    }

    long countOf(int i, int k) {
        if (instance(i) == null || k < 0 || k > 1 || instance(i).counts[k] == null) {
            return StagedCompiler.NONE;
        }
        return instance(i).counts[k].longValueExact();
    }

    int typeOf(int i, int n) {
        if (instance(i) == null || !isNode(n)) {
            return -1;
        }
        Found found = instance(i).found.get(n);
        return found == null ? ABSENT : found.type;
    }

    long known(int i, int n) {
        Found found = instance(i) == null ? null : instance(i).found.get(n);
        return found == null || found.value == null ? StagedCompiler.NONE : found.value.longValueExact();
    }

    int size(int i) {
        if (instance(i) == null) {
            return -1;
        }
        int size = 0;
        for (Map.Entry<Integer, Found> entry : instance(i).found.entrySet()) {
            int kind = nodes.get(entry.getKey()).kind;
            size += kind >= 2 && kind <= 15 && entry.getValue().value == null ? 1 : 0;
        }
        return size;
    }

    long run(int i, int a, int b) {
        Instance in = instance(i);
        if (in == null) {
            return StagedCompiler.NONE;
        }
        BigInteger[] arguments = {BigInteger.valueOf(a), BigInteger.valueOf(b)};
        for (int k = 0; k < 2; k++) {
            if (in.types[k] != COUNT && in.types[k] != ABSENT && !in(in.types[k], arguments[k])) {
                return StagedCompiler.NONE;
            }
        }
        steps = 0;
        calls = 0;
        long answer;
        try {
            answer = perform(in, in.function.body, arguments, 0).longValueExact();
        } catch (Stop stop) {
            answer = stop.code;
        }
        lastCalls = calls;
        return answer;
    }

    private BigInteger perform(Instance in, int number, BigInteger[] arguments, int depth) {
        if (++steps == 3001) {
            throw new Stop(StagedCompiler.TIRED, 0);
        }
        Node n = nodes.get(number);
        Found found = in.found.get(number);
        if (found.value != null) {
            return found.value;
        }
        if (n.kind == 1) {
            return arguments[n.a];
        }
        if (n.kind == 13) {
            BigInteger known = in.found.get(n.a).value;
            BigInteger a = known != null ? known : perform(in, n.a, arguments, depth);
            return perform(in, a.signum() != 0 ? n.b : n.c, arguments, depth);
        }
        if (n.kind == 14) {
            return checked(found.type, perform(in, n.a, arguments, depth));
        }
        if (n.kind == 15) {
            if (depth == 5) {
                throw new Stop(StagedCompiler.DEPTH, 0);
            }
            BigInteger[] handed = new BigInteger[2];
            for (int k = 0; k < 2; k++) {
                if (found.callee.types[k] != COUNT && found.callee.types[k] != ABSENT) {
                    handed[k] = perform(in, k == 0 ? n.b : n.c, arguments, depth);
                }
            }
            calls++;
            return perform(found.callee, found.callee.function.body, handed, depth + 1);
        }
        BigInteger x = perform(in, n.a, arguments, depth);
        BigInteger y = perform(in, n.b, arguments, depth);
        return arithmetic(n.kind, found.type, x, y);
    }

    int count(int what) {
        return switch (what) {
            case 0 -> nodes.size();
            case 1 -> functions.size();
            case 2 -> instances.size();
            case 3 -> lastCalls;
            default -> -1;
        };
    }
}
