import java.lang.reflect.Constructor;
import java.lang.reflect.Field;
import java.lang.reflect.Method;
import java.lang.reflect.Modifier;
import java.util.Set;
import java.util.TreeSet;

/** The face of the class is the document's, and nothing else in it can be seen from outside. */
public final class FaceTest {
    private static final Set<String> CONSTANTS = Set.of(
        "int REFUSED = -1", "int TYPE = -2", "int RANGE = -3", "int WIDTH = -4", "int DIVISION = -5",
        "int CALL = -6", "int QUOTA = -7", "long NONE = 1000000000000000",
        "long OVERFLOW = 1000000000000001", "long BY_ZERO = 1000000000000002",
        "long DEPTH = 1000000000000003", "long TIRED = 1000000000000004");
    private static final Set<String> METHODS = Set.of(
        "public int StagedCompiler.node(int,int,int,int)",
        "public int StagedCompiler.define(int,int,int,int,int)",
        "public int StagedCompiler.compile(int,int,int)",
        "public int StagedCompiler.errorAt()",
        "public int StagedCompiler.functionOf(int)",
        "public long StagedCompiler.countOf(int,int)",
        "public int StagedCompiler.typeOf(int,int)",
        "public long StagedCompiler.known(int,int)",
        "public int StagedCompiler.size(int)",
        "public long StagedCompiler.run(int,int,int)",
        "public int StagedCompiler.count(int)");

    public static void main(String[] args) throws IllegalAccessException {
        Class<?> face = StagedCompiler.class;
        Sheet.due("public and final", face.getModifiers(), Modifier.PUBLIC | Modifier.FINAL);
        same("constants", constants(face), CONSTANTS);
        same("methods", methods(face), METHODS);
        Constructor<?>[] constructors = face.getDeclaredConstructors();
        Sheet.due("constructors", constructors.length, 1);
        Sheet.due("its parameters", constructors[0].getParameterCount(), 0);
        Sheet.due("it is public", constructors[0].getModifiers(), Modifier.PUBLIC);
        inside(face);
        Sheet.finish();
    }

    private static void same(String what, Set<String> got, Set<String> want) {
        Sheet.due(what + " " + got, got.equals(want) ? 1 : 0, 1);
    }

    private static Set<String> constants(Class<?> face) throws IllegalAccessException {
        Set<String> seen = new TreeSet<>();
        for (Field field : face.getDeclaredFields()) {
            if (!Modifier.isPrivate(field.getModifiers())) {
                Sheet.due(field + ": public static final", field.getModifiers(),
                    Modifier.PUBLIC | Modifier.STATIC | Modifier.FINAL);
                seen.add(field.getType() + " " + field.getName() + " = " + field.get(null));
            }
        }
        return seen;
    }

    private static Set<String> methods(Class<?> face) {
        Set<String> seen = new TreeSet<>();
        for (Method method : face.getDeclaredMethods()) {
            if (!Modifier.isPrivate(method.getModifiers())) {
                seen.add(method.toString());
            }
        }
        return seen;
    }

    /** Classes inside are static, and no method of theirs bears the name of a public one. */
    private static void inside(Class<?> face) {
        for (Class<?> own : face.getDeclaredClasses()) {
            Sheet.due(own + ": static", own.getModifiers() & Modifier.STATIC, Modifier.STATIC);
            Sheet.due(own + ": not public", own.getModifiers() & Modifier.PUBLIC, 0);
            for (Method method : own.getDeclaredMethods()) {
                for (Method shown : face.getDeclaredMethods()) {
                    boolean clash = Modifier.isPublic(shown.getModifiers())
                        && shown.getName().equals(method.getName());
                    Sheet.due(method + ": its name is its own", clash ? 1 : 0, 0);
                }
            }
        }
    }
}
