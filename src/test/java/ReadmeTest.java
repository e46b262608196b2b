import java.io.IOException;
import java.lang.reflect.Method;
import java.lang.reflect.Modifier;
import java.nio.file.Files;
import java.nio.file.Path;
import java.util.ArrayList;
import java.util.List;
import java.util.regex.Matcher;
import java.util.regex.Pattern;
import java.util.stream.Stream;
import javax.tools.ToolProvider;

/** README.md held against the class and the tests: its examples are compiled and run, and it names every call and test. */
public final class ReadmeTest {
    private static final Path README = Path.of("README.md");
    private static final Path SOURCE = Path.of("src/main/java/MarkCabinet.java");
    private static final Path TESTS = Path.of("src/test/java");
    private static final Pattern BLOCK = Pattern.compile("```java\n(.*?)```", Pattern.DOTALL);
    private static final Pattern EXAMPLE = Pattern.compile("(\\S.*\\));\\s*// (true|false|-?[0-9]+)\\b.*");
    private static int wrong = 0;

    public static void main(String[] args) throws Exception {
        String readme = Files.readString(README);
        namesEveryCall(readme);
        namesEveryTest(readme);
        runExamples(readme);
        System.out.println(wrong == 0 ? "README.md is as the class and the tests are" : wrong + " things are not");
        if (wrong != 0) {
            System.exit(1);
        }
    }

    private static void wrong(String what) {
        wrong++;
        System.out.println("README.md: " + what);
    }

    private static void namesEveryCall(String readme) {
        for (Method m : MarkCabinet.class.getDeclaredMethods()) {
            if (Modifier.isPublic(m.getModifiers()) && !readme.contains("x." + m.getName() + "(")) {
                wrong("no example has " + m.getName());
            }
        }
    }

    private static void namesEveryTest(String readme) throws IOException {
        List<String> names = new ArrayList<>();
        try (Stream<Path> files = Files.list(TESTS)) {
            files.forEach(f -> names.add(f.getFileName().toString().replace(".java", "")));
        }
        for (String name : names) {
            if (!readme.contains("| `" + name + "` |")) {
                wrong("it does not name the test " + name);
            }
        }
        Matcher named = Pattern.compile("\\| `(\\w+)` \\|").matcher(readme);
        while (named.find()) {
            if (!names.contains(named.group(1))) {
                wrong("there is no test " + named.group(1));
            }
        }
    }

    /** All blocks make one class; each example in them prints itself if its answer is not the one behind it. */
    private static void runExamples(String readme) throws Exception {
        StringBuilder functions = new StringBuilder();
        StringBuilder calls = new StringBuilder();
        int examples = 0;
        Matcher block = BLOCK.matcher(readme);
        while (block.find()) {
            if (block.group(1).startsWith("static ")) {
                functions.append(block.group(1));
                continue;
            }
            for (String line : block.group(1).split("\n")) {
                Matcher example = EXAMPLE.matcher(line);
                boolean told = example.matches();
                examples += told ? 1 : 0;
                if (!told && !line.startsWith("MarkCabinet x = ")) {
                    wrong("no answer is told: " + line);
                }
                calls.append(told ? check(example.group(1), example.group(2)) : line).append('\n');
            }
        }
        if (examples == 0) {
            wrong("there is no example");
        }
        wrong += run(functions.toString(), calls.toString());
    }

    private static String check(String call, String answer) {
        String quoted = call.replace("\\", "\\\\").replace("\"", "\\\"");
        return "due(\"" + quoted + "\", String.valueOf(" + call + "), \"" + answer + "\");";
    }

    private static int run(String functions, String calls) throws IOException, InterruptedException {
        Path room = Files.createTempDirectory("readme");
        Path file = room.resolve("Examples.java");
        Files.writeString(file, "public class Examples {\nstatic int wrong = 0;\n" + functions
            + "static void due(String call, String got, String want) {\nif (!got.equals(want)) {\nwrong++;\n"
            + "System.out.println(\"README.md: \" + call + \" answers \" + got + \", it says \" + want);\n}\n}\n"
            + "public static void main(String[] args) {\n" + calls + "System.exit(wrong);\n}\n}\n");
        int failed = ToolProvider.getSystemJavaCompiler().run(null, null, null, "-d", room.toString(), SOURCE.toString(), file.toString());
        if (failed == 0) {
            String java = Path.of(System.getProperty("java.home"), "bin", "java").toString();
            failed = new ProcessBuilder(java, "-cp", room.toString(), "Examples").inheritIO().start().waitFor();
        }
        try (Stream<Path> files = Files.list(room)) {
            for (Path f : files.toList()) {
                Files.delete(f);
            }
        }
        Files.delete(room);
        return failed;
    }
}
