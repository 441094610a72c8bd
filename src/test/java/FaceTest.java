import java.lang.reflect.Constructor;
import java.lang.reflect.Field;
import java.lang.reflect.Method;
import java.lang.reflect.Modifier;
import java.util.Set;
import java.util.TreeSet;

/** The face of the class is the document's, and nothing else in it can be seen from outside. */
public final class FaceTest {
    private static final Class<?> FACE = StagedCompiler.class;
    private static final Set<String> CONSTANTS = Set.of(
        "int REFUSED = -1", "int TYPE = -2", "int RANGE = -3", "int WIDTH = -4", "int DIVISION = -5",
        "int CALL = -6", "int QUOTA = -7", "long NONE = 1000000000000000",
        "long OVERFLOW = 1000000000000001", "long BY_ZERO = 1000000000000002",
        "long DEPTH = 1000000000000003", "long TIRED = 1000000000000004");
    private static final Set<String> METHODS = Set.of(
        "public int StagedCompiler.node(int,int,int,int)",
        "public int StagedCompiler.define(int,int,int,int,int)",
        "public int StagedCompiler.compile(int,int,int)",
        "public int StagedCompiler.errorAt()",
        "public int StagedCompiler.functionOf(int)",
        "public long StagedCompiler.countOf(int,int)",
        "public int StagedCompiler.typeOf(int,int)",
        "public long StagedCompiler.known(int,int)",
        "public int StagedCompiler.size(int)",
        "public long StagedCompiler.run(int,int,int)",
        "public int StagedCompiler.count(int)");

    public static void main(String[] args) {
        Sheet.test("The public face: the class is public and final", FaceTest::isFinal);
        Sheet.test("The public face: its constants", () -> same("constants", constants(), CONSTANTS));
        Sheet.test("The public face: its methods", () -> same("methods", methods(), METHODS));
        Sheet.test("The public face: its constructor", FaceTest::constructor);
        Sheet.test("LANGUAGE.md, rule 1: classes inside, and names", FaceTest::inside);
        Sheet.finish();
    }

    private static void isFinal() {
        Sheet.due("modifiers", FACE.getModifiers(), Modifier.PUBLIC | Modifier.FINAL);
    }

    private static void constructor() {
        Constructor<?>[] constructors = FACE.getDeclaredConstructors();
        Sheet.due("constructors", constructors.length, 1);
        Sheet.due("its parameters", constructors[0].getParameterCount(), 0);
        Sheet.due("it is public", constructors[0].getModifiers(), Modifier.PUBLIC);
    }

    private static void same(String what, Set<String> got, Set<String> want) {
        Sheet.due(what + " " + got, got.equals(want) ? 1 : 0, 1);
    }

    private static Set<String> constants() {
        Set<String> seen = new TreeSet<>();
        for (Field field : FACE.getDeclaredFields()) {
            if (!Modifier.isPrivate(field.getModifiers())) {
                Sheet.due(field + ": public static final", field.getModifiers(),
                    Modifier.PUBLIC | Modifier.STATIC | Modifier.FINAL);
                seen.add(field.getType() + " " + field.getName() + " = " + valueOf(field));
            }
        }
        return seen;
    }

    private static Object valueOf(Field field) {
        try {
            return field.get(null);
        } catch (IllegalAccessException hidden) {
            return "hidden";
        }
    }

    private static Set<String> methods() {
        Set<String> seen = new TreeSet<>();
        for (Method method : FACE.getDeclaredMethods()) {
            if (!Modifier.isPrivate(method.getModifiers())) {
                seen.add(method.toString());
            }
        }
        return seen;
    }

    /** Classes inside are static, and no method of theirs bears the name of a public one. */
    private static void inside() {
        for (Class<?> own : FACE.getDeclaredClasses()) {
            Sheet.due(own + ": static", own.getModifiers() & Modifier.STATIC, Modifier.STATIC);
            Sheet.due(own + ": not public", own.getModifiers() & Modifier.PUBLIC, 0);
            for (Method method : own.getDeclaredMethods()) {
                for (Method shown : FACE.getDeclaredMethods()) {
                    boolean clash = Modifier.isPublic(shown.getModifiers())
                        && shown.getName().equals(method.getName());
                    Sheet.due(method + ": its name is its own", clash ? 1 : 0, 0);
                }
            }
        }
    }
}
