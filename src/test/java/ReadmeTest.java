import java.io.IOException;
import java.lang.reflect.Field;
import java.lang.reflect.Method;
import java.lang.reflect.Modifier;
import java.nio.file.Files;
import java.nio.file.Path;
import java.util.ArrayList;
import java.util.List;

/** README.md: its example answers what it says, its tables name the whole face, and it names every test there is. */
public final class ReadmeTest {
    private static final Check CHECK = new Check();

    public static void main(String[] args) throws IOException, IllegalAccessException {
        String readme = Files.readString(Path.of("README.md"));
        example(codeOf(readme));
        calls(readme);
        constants(readme);
        tests(readme);
        CHECK.end("ReadmeTest");
    }

    private static List<String> codeOf(String readme) {
        int from = readme.indexOf("```java\n") + "```java\n".length();
        return new ArrayList<>(List.of(readme.substring(from, readme.indexOf("```", from)).split("\n")));
    }

    /** The next line of the example is this call, and the number its comment begins with is what the call answered. */
    private static void line(List<String> code, String call, int got) {
        String line = code.isEmpty() ? "" : code.remove(0);
        CHECK.holds("README.md's next line is " + call + " and not " + line, line.startsWith(call));
        int comment = line.indexOf("// ");
        String told = comment < 0 ? "" : line.substring(comment + 3);
        if (told.matches("-?\\d+: .*")) {
            CHECK.same("README.md's " + call, got, Integer.parseInt(told.substring(0, told.indexOf(':'))));
        }
    }

    private static void example(List<String> code) {
        ParserGenerator g = new ParserGenerator();
        line(code, "ParserGenerator g = new ParserGenerator();", 0);
        int one = g.node(0, 1, 0);
        line(code, "int one = g.node(0, 1, 0);", one);
        int comma = g.node(0, 2, 0);
        line(code, "int comma = g.node(0, 2, 0);", comma);
        int more = g.node(2, comma, one);
        line(code, "int more = g.node(2, comma, one);", more);
        int rest = g.node(5, more, 0);
        line(code, "int rest = g.node(5, more, 0);", rest);
        int list = g.node(2, one, rest);
        line(code, "int list = g.node(2, one, rest);", list);
        line(code, "g.rule(0, g.node(8, 7, list));", g.rule(0, g.node(8, 7, list)));
        line(code, "g.compile(0);", g.compile(0));
        line(code, "g.clash(rest);", g.clash(rest));
        line(code, "g.feed(1);", g.feed(1));
        line(code, "g.feed(2);", g.feed(2));
        line(code, "g.feed(1);", g.feed(1));
        line(code, "g.parse();", g.parse());
        line(code, "g.tree(0, 0);", g.tree(0, 0));
        line(code, "g.tree(0, 1);", g.tree(0, 1));
        line(code, "g.tree(2, 0);", g.tree(2, 0));
        line(code, "g.tree(2, 2);", g.tree(2, 2));
        line(code, "g.feed(2);", g.feed(2));
        line(code, "g.parse();", g.parse());
        line(code, "g.place();", g.place());
        line(code, "g.due();", g.due());
        CHECK.same("lines of README.md's example that are not run", code.size(), 0);
    }

    private static void calls(String readme) {
        for (Method method : ParserGenerator.class.getDeclaredMethods()) {
            if (Modifier.isPublic(method.getModifiers())) {
                CHECK.holds("README.md tells of " + method.getName(), readme.contains("\n| `" + method.getName() + "("));
            }
        }
    }

    private static void constants(String readme) throws IllegalAccessException {
        for (Field field : ParserGenerator.class.getDeclaredFields()) {
            if (Modifier.isPublic(field.getModifiers())) {
                String row = "\n| `" + field.getName() + "` | " + field.getInt(null) + " | ";
                CHECK.holds("README.md tells of " + field.getName(), readme.contains(row));
            }
        }
    }

    private static void tests(String readme) throws IOException {
        try (var files = Files.list(Path.of("src/test/java"))) {
            for (Path file : files.toList()) {
                String name = file.getFileName().toString().replace(".java", "");
                if (name.endsWith("Test")) {
                    CHECK.holds("README.md tells of " + name, readme.contains("\n| `" + name + "` | "));
                }
            }
        }
    }
}
