import java.io.IOException;
import java.nio.file.Files;
import java.nio.file.Path;

/** The example of README.md answers what its comments say, and tells all calls of the face. */
public final class ReadmeTest {
    public static void main(String[] args) throws IOException {
        String text = Files.readString(Path.of("README.md"));
        Sheet.test("README.md: its example", ReadmeTest::example);
        Sheet.test("README.md: it names each call, error and TRAP", () -> names(text));
        Sheet.finish();
    }

    private static void example() {
        StagedCompiler x = new StagedCompiler();
        int exponent = x.node(1, 0, 0, 0);
        int base = x.node(1, 1, 0, 0);
        int one = x.node(0, 1, 0, 0);
        int isOver = x.node(11, exponent, one, 0);
        int less = x.node(3, exponent, one, 0);
        int rest = x.node(15, 0, less, base);
        int product = x.node(4, base, rest, 0);
        int body = x.node(13, isOver, one, product);
        Sheet.due("define", x.define(0, 300, 16, 16, body), 0);
        Sheet.due("compile for 3", x.compile(0, 3, 0), 4);
        Sheet.due("5 to the 3rd", x.run(0, 0, 5), 125);
        Sheet.due("its calls", x.count(3), 3);
        Sheet.due("50 to the 3rd", x.run(0, 0, 50), StagedCompiler.OVERFLOW);
        Sheet.due("the last exponent", x.countOf(3, 0), 0);
        Sheet.due("known without a run", x.known(3, body), 1);
        Sheet.due("a branch not taken", x.typeOf(3, product), 400);
        Sheet.due("left to run", x.size(0), 3);
        Sheet.due("compile for -1", x.compile(0, -1, 0), 1);
        Sheet.due("compile for 20", x.compile(0, 20, 0), StagedCompiler.QUOTA);
        Sheet.due("errorAt", x.errorAt(), 5);
    }

    private static void names(String text) {
        String[] names = {"node(", "define(", "compile(", "errorAt(", "functionOf(", "countOf(", "typeOf(",
            "known(", "size(", "run(", "count(", "REFUSED", "NONE", "TYPE", "RANGE", "WIDTH", "DIVISION",
            "CALL", "QUOTA", "OVERFLOW", "BY_ZERO", "DEPTH", "TIRED"};
        for (String name : names) {
            Sheet.due(name + " is told", text.contains("`" + name) ? 1 : 0, 1);
        }
    }
}
