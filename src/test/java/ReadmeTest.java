import java.io.IOException;
import java.lang.reflect.Method;
import java.lang.reflect.Modifier;
import java.net.URL;
import java.net.URLClassLoader;
import java.nio.file.Files;
import java.nio.file.Path;
import java.util.ArrayList;
import java.util.Comparator;
import java.util.List;
import java.util.regex.Matcher;
import java.util.regex.Pattern;
import java.util.stream.Stream;
import javax.tools.JavaCompiler;
import javax.tools.ToolProvider;

/** README.md tells how to use the class and how to run its tests, and what it tells is so. */
public final class ReadmeTest {
    private static final Check check = new Check("ReadmeTest");
    private static final Path README = Path.of("README.md");
    private static final String[] CODES = {"NO_SUCH", "BAD_VALUE", "BAD_TEXT", "TOO_MANY", "NOT_POSSIBLE", "NONE"};
    /** A call, and behind it what it answers. */
    private static final Pattern TOLD = Pattern.compile("^(airport\\.\\w+\\(.*\\)|put\\(.*\\));\\s*// (-?\\d+|[A-Z_]+): .*$");

    public static void main(String[] args) throws IOException, ReflectiveOperationException {
        check.holds("README.md stands at the project's root", Files.isRegularFile(README));
        if (Files.isRegularFile(README)) {
            String text = Files.readString(README);
            List<String> blocks = blocks(text);
            everyMethod(String.join("\n", blocks));
            everyCode(text, String.join("\n", blocks));
            everyTest(text);
            example(blocks);
        }
        check.end();
    }

    /** What a call of the page answered; the program made of the page calls it. */
    public static void due(String call, int got, int due) {
        check.same(call, got, due);
    }

    private static List<String> blocks(String text) {
        List<String> blocks = new ArrayList<>();
        Matcher block = Pattern.compile("```java\n(.*?)```", Pattern.DOTALL).matcher(text);
        while (block.find()) {
            blocks.add(block.group(1));
        }
        return blocks;
    }

    private static void everyMethod(String code) {
        check.holds("an object is made", code.contains("new ShuttleDoors()"));
        for (Method m : ShuttleDoors.class.getDeclaredMethods()) {
            boolean shown = code.contains("airport." + m.getName() + "(");
            check.holds(m.getName() + " is called", shown || !Modifier.isPublic(m.getModifiers()));
        }
    }

    private static void everyCode(String text, String code) {
        for (int i = 0; i < CODES.length; i++) {
            int number = -101 - i;
            String row = "\n\\| `" + CODES[i] + "` \\| " + number + " \\| [^|\n]*\\w[^|\n]* \\|\n";
            check.holds(CODES[i] + " has a meaning", Pattern.compile(row).matcher(text).find());
            check.holds(CODES[i] + " is answered", code.contains("// " + CODES[i] + ": "));
        }
    }

    private static void everyTest(String text) throws IOException {
        check.holds("it tells how to run the tests", text.contains("\n    .ci/run\n"));
        check.holds(".ci/run can be run", Files.isExecutable(Path.of(".ci/run")));
        try (Stream<Path> files = Files.list(Path.of("src/test/java"))) {
            for (Path file : files.filter(f -> f.toString().endsWith("Test.java")).toList()) {
                String name = file.getFileName().toString().replace(".java", "");
                check.holds(name + " is in the table", text.contains("\n| " + name + " | "));
            }
        }
        Matcher row = Pattern.compile("\n\\| (\\w+Test) \\|").matcher(text);
        while (row.find()) {
            check.holds(row.group(1) + " is there", Files.exists(Path.of("src/test/java", row.group(1) + ".java")));
        }
    }

    /** The page's lines are compiled as they stand, and run with every answer that is told. */
    private static void example(List<String> blocks) throws IOException, ReflectiveOperationException {
        StringBuilder members = new StringBuilder();
        StringBuilder body = new StringBuilder();
        StringBuilder asked = new StringBuilder();
        for (String block : blocks) {
            if (block.startsWith("static ")) {
                members.append(block);
                continue;
            }
            for (String line : block.split("\n")) {
                body.append(line).append('\n');
                asked.append(withAnswer(line)).append('\n');
            }
        }
        String plain = "static void plain() {\n" + body + "}\n";
        String told = "public static void told() {\n" + asked + "}\n";
        run("public final class Example {\n" + members + plain + told + "}\n");
    }

    private static String withAnswer(String line) {
        Matcher told = TOLD.matcher(line);
        if (!told.matches()) {
            check.holds("'" + line + "' tells what it answers", line.startsWith("ShuttleDoors airport"));
            return line;
        }
        String call = told.group(1);
        String answer = told.group(2);
        String number = Character.isLetter(answer.charAt(0)) ? "ShuttleDoors." + answer : answer;
        return "ReadmeTest.due(\"" + call.replace("\"", "\\\"") + "\", " + call + ", " + number + ");";
    }

    private static void run(String program) throws IOException, ReflectiveOperationException {
        Path room = Files.createTempDirectory("readme");
        try {
            Path file = room.resolve("Example.java");
            Files.writeString(file, program);
            JavaCompiler compiler = ToolProvider.getSystemJavaCompiler();
            String classes = System.getProperty("java.class.path");
            int code = compiler.run(null, null, null, "-encoding", "UTF-8", "-cp", classes, "-d", room.toString(), file.toString());
            check.same("javac of the page's lines", code, 0);
            if (code == 0) {
                call(room);
            }
        } finally {
            remove(room);
        }
    }

    private static void call(Path room) throws IOException, ReflectiveOperationException {
        try (URLClassLoader loader = new URLClassLoader(new URL[] {room.toUri().toURL()}, ReadmeTest.class.getClassLoader())) {
            loader.loadClass("Example").getMethod("told").invoke(null);
        }
    }

    private static void remove(Path room) throws IOException {
        try (Stream<Path> files = Files.walk(room)) {
            for (Path file : files.sorted(Comparator.reverseOrder()).toList()) {
                Files.delete(file);
            }
        }
    }
}
