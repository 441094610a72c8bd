import java.io.IOException;
import java.lang.reflect.Field;
import java.lang.reflect.Method;
import java.lang.reflect.Modifier;
import java.nio.file.Files;
import java.nio.file.Path;
import java.util.ArrayList;
import java.util.List;
import java.util.Set;
import java.util.regex.Matcher;
import java.util.regex.Pattern;

/** The rules of LANGUAGE.md that can be seen in the text of the class or in what it is made of. */
public final class LanguageTest {
    private static final String SOURCE = "src/main/java/StagedCompiler.java";
    private static final String[] WORDS_RULED_OUT = {"package", "import", "throw", "throws", "try", "catch",
        "finally", "synchronized", "assert", "volatile", "native", "Object", "Thread", "Runtime", "Random",
        "equals", "hashCode", "toString", "double", "float", "var", "yield"};
    private static final Set<String> LIBRARY = Set.of("Math.abs", "Math.max", "Math.min");
    private static final Set<Class<?>> CONSTANTS =
        Set.of(int.class, long.class, boolean.class, char.class, String.class);
    private static final Set<Class<?>> ROWS = Set.of(int[].class, long[].class, boolean[].class);

    public static void main(String[] args) throws IOException {
        String code = withoutComments(Files.readString(Path.of(SOURCE)));
        Sheet.test("LANGUAGE.md, rules 2, 4, 6: nothing that is ruled out", () -> ruledOut(code));
        Sheet.test("LANGUAGE.md, rule 4: of the library only what it lists", () -> library(code));
        Sheet.test("LANGUAGE.md, rules 3, 5: fields", LanguageTest::fields);
        Sheet.test("LANGUAGE.md, rule 9: a loop has its bound in its own line", () -> loops(code));
        Sheet.test("LANGUAGE.md, rule 11: methods are short, with few parameters", () -> methods(code));
        Sheet.test("LANGUAGE.md, rule 11: few classes with few fields", LanguageTest::few);
        Sheet.finish();
    }

    private static String withoutComments(String text) {
        return text.replaceAll("(?s)/\\*.*?\\*/", "").replaceAll("//[^\n]*", "");
    }

    private static boolean has(String code, String pattern) {
        return Pattern.compile(pattern).matcher(code).find();
    }

    private static void ruledOut(String code) {
        for (String word : WORDS_RULED_OUT) {
            Sheet.due(word + " is there", has(code, "\\b" + word + "\\b") ? 1 : 0, 0);
        }
        Sheet.due("lambda is there", code.contains("->") ? 1 : 0, 0);
        Sheet.due("method reference is there", code.contains("::") ? 1 : 0, 0);
        Sheet.due("static block is there", has(code, "static\\s*\\{") ? 1 : 0, 0);
        Sheet.due("a text is there", code.contains("\"") ? 1 : 0, 0);
    }

    private static void library(String code) {
        Matcher use = Pattern.compile("\\b(Math|Integer|Long|Arrays|System|List|ArrayList|String)\\b(\\.\\w+)?")
            .matcher(code);
        int uses = 0;
        while (use.find()) {
            uses++;
            Sheet.due(use.group() + " is used", LIBRARY.contains(use.group()) ? 1 : 0, 1);
        }
        Sheet.due("uses were found", uses > 0 ? 1 : 0, 1);
    }

    private static List<Class<?>> classes() {
        List<Class<?>> all = new ArrayList<>(List.of(StagedCompiler.class.getDeclaredClasses()));
        all.add(StagedCompiler.class);
        return all;
    }

    private static boolean isOwn(Class<?> type) {
        Class<?> held = type.isArray() ? type.getComponentType() : type;
        return classes().contains(held);
    }

    private static void fields() {
        for (Class<?> own : classes()) {
            for (Field field : own.getDeclaredFields()) {
                Class<?> type = field.getType();
                boolean constant = Modifier.isStatic(field.getModifiers());
                boolean good = constant
                    ? Modifier.isFinal(field.getModifiers()) && CONSTANTS.contains(type)
                    : CONSTANTS.contains(type) || ROWS.contains(type) || isOwn(type);
                Sheet.due(field + " is as ruled", good ? 1 : 0, 1);
            }
        }
    }

    private static void loops(String code) {
        int loops = 0;
        for (String line : code.split("\n")) {
            if (has(line, "\\b(for|while|do)\\b")) {
                loops++;
                Sheet.due("loop " + line.trim(), has(line, "for \\(int (\\w+) = 0;.* \\1 < \\w+; \\1\\+\\+\\)") ? 1 : 0, 1);
            }
        }
        Sheet.due("loops were found", loops > 0 ? 1 : 0, 1);
    }

    private static void methods(String code) {
        for (Class<?> own : classes()) {
            for (Method method : own.getDeclaredMethods()) {
                Sheet.due(method + ": at most seven parameters", method.getParameterCount() <= 7 ? 1 : 0, 1);
            }
        }
        String[] lines = code.split("\n");
        int begun = 0;
        for (int i = 0; i < lines.length; i++) {
            if (has(lines[i], "^\\s+(private|public)\\b.*\\(")) {
                begun = i;
            }
            if (has(lines[i], "^\\s+\\}")) {
                Sheet.due("lines " + begun + " to " + i + ": at most sixty", i - begun <= 60 ? 1 : 0, 1);
            }
        }
    }

    private static void few() {
        Sheet.due("at most twelve classes", classes().size() <= 12 ? 1 : 0, 1);
        for (Class<?> own : classes()) {
            int fields = 0;
            for (Field field : own.getDeclaredFields()) {
                fields += Modifier.isStatic(field.getModifiers()) ? 0 : 1;
            }
            Sheet.due(own + ": at most twenty fields", fields <= 20 ? 1 : 0, 1);
        }
    }
}
