import java.io.IOException;
import java.lang.reflect.Constructor;
import java.lang.reflect.Field;
import java.lang.reflect.Method;
import java.lang.reflect.Modifier;
import java.nio.file.Files;
import java.nio.file.Path;
import java.util.ArrayList;
import java.util.List;
import java.util.Set;
import java.util.TreeSet;
import java.util.regex.Matcher;
import java.util.regex.Pattern;

/** The rules of ../shared/LANGUAGE.md, as far as a look at the source and at the classes can tell. */
public final class LanguageTest {
    private static final Path SOURCE = Path.of("src/main/java/MarkCabinet.java");
    private static final Path DOCUMENT = Path.of("../shared/DOC.md");
    private static final int MOST_LINES = 60;
    private static final int MOST_PARAMETERS = 7;
    private static final int MOST_FIELDS = 20;
    private static final int MOST_CLASSES = 12;
    private static int wrong = 0;

    private static void due(boolean good, String what) {
        if (!good) {
            wrong++;
            System.out.println(what);
        }
    }

    public static void main(String[] args) throws IOException {
        String source = Files.readString(SOURCE);
        face();
        words(bare(source));
        methods(source);
        nested();
        System.out.println(wrong + " rules are broken");
        if (wrong != 0) {
            System.exit(1);
        }
    }

    /** Rule 1: the face is the document's, and nothing else can be seen. */
    private static void face() throws IOException {
        Set<String> due = new TreeSet<>();
        Matcher m = Pattern.compile("^    public (int|long|boolean) (\\w+)\\((.*)\\);$", Pattern.MULTILINE).matcher(Files.readString(DOCUMENT));
        while (m.find()) {
            due.add(m.group(1) + " " + m.group(2) + "(" + m.group(3).replaceAll(" \\w+(,|$)", "$1").replace(" ", "") + ")");
        }
        Set<String> found = new TreeSet<>();
        for (Method method : MarkCabinet.class.getDeclaredMethods()) {
            if (Modifier.isPrivate(method.getModifiers())) {
                due(!named(due, method.getName()), "rule 1: a private method bears the public name " + method.getName());
                continue;
            }
            due(Modifier.isPublic(method.getModifiers()), "rule 1: " + method + " is not private");
            StringBuilder types = new StringBuilder();
            for (Class<?> type : method.getParameterTypes()) {
                types.append(types.length() == 0 ? "" : ",").append(type.getName());
            }
            found.add(method.getReturnType().getName() + " " + method.getName() + "(" + types + ")");
        }
        due(due.size() == 33, "the document's face has " + due.size() + " methods");
        due(due.equals(found), "rule 1: the face is " + found + ", due is " + due);
        Constructor<?>[] made = MarkCabinet.class.getDeclaredConstructors();
        due(made.length == 1 && made[0].getParameterCount() == 0 && Modifier.isPublic(made[0].getModifiers()), "rule 1: the constructor");
        int flags = MarkCabinet.class.getModifiers();
        due(Modifier.isPublic(flags) && Modifier.isFinal(flags), "rule 1: public and final");
        int constants = 0;
        for (Field field : MarkCabinet.class.getDeclaredFields()) {
            boolean constant = field.toString().equals("public static final int MarkCabinet.NONE");
            constants += constant ? 1 : 0;
            due(constant || Modifier.isPrivate(field.getModifiers()), "rule 1: " + field + " is not private");
        }
        due(constants == 1, "rule 1: the constant NONE");
    }

    private static boolean named(Set<String> face, String name) {
        for (String method : face) {
            if (method.contains(" " + name + "(")) {
                return true;
            }
        }
        return false;
    }

    /** The source without comments and texts. */
    private static String bare(String source) {
        return source.replaceAll("(?s)/\\*.*?\\*/", " ").replaceAll("//[^\n]*", " ")
            .replaceAll("\"[^\"\n]*\"", "\"\"").replaceAll("'(\\\\.|[^'\\\\])'", "' '");
    }

    /** Rules 2 to 6 and 13: words that may not stand in the source, and the library that may. */
    private static void words(String bare) {
        String[] never = {"throw", "throws", "try", "catch", "finally", "synchronized", "assert", "volatile", "native", "->", "::", "var",
            "hashCode", "toString", "Thread", "Random", "Exact", "NaN", "double", "float", "protected", "package"};
        for (String word : never) {
            String pattern = word.matches("\\w+") && !word.equals("Exact") ? "\\b" + word + "\\b" : Pattern.quote(word);
            due(!Pattern.compile(pattern).matcher(bare).find(), "the source has " + word);
        }
        Matcher m = Pattern.compile("import ([\\w.]+);").matcher(bare);
        while (m.find()) {
            due(m.group(1).equals("java.util.Arrays"), "rule 4: import of " + m.group(1));
        }
        m = Pattern.compile("\\b(Math|Integer|Long|Arrays|System)\\.(\\w+)").matcher(bare);
        while (m.find()) {
            due(m.group(2).matches("max|min|abs|bitCount|fill|arraycopy"), "rule 4: " + m.group());
        }
        m = Pattern.compile("\\bstatic (?!final )[\\w\\[\\]]+ \\w+ *[=;]").matcher(bare);
        due(!m.find(), "rule 5: a static field that is not final");
    }

    /** Rule 11: short methods with few parameters. */
    private static void methods(String source) {
        String[] lines = source.split("\n");
        Pattern head = Pattern.compile("^(    |        )(public |private )?(static )?(final )?[\\w\\[\\]]+ \\w+\\((.*)\\) \\{$");
        int seen = 0;
        for (int i = 0; i < lines.length; i++) {
            Matcher m = head.matcher(lines[i]);
            if (m.matches()) {
                seen++;
                int end = i;
                while (end < lines.length && !lines[end].equals(m.group(1) + "}")) {
                    end++;
                }
                due(end - i < MOST_LINES, "rule 11: a long method at line " + (i + 1));
                due(m.group(5).split(",").length <= MOST_PARAMETERS, "rule 11: many parameters at line " + (i + 1));
            }
        }
        due(seen > 100, "only " + seen + " methods were found");
    }

    /** Rules 1, 2, 5, 11: classes inside are static, not public, of some twenty fields, with no public name again. */
    private static void nested() {
        Set<String> publicNames = new TreeSet<>();
        for (Method method : MarkCabinet.class.getMethods()) {
            publicNames.add(method.getName());
        }
        List<Class<?>> classes = new ArrayList<>(List.of(MarkCabinet.class.getDeclaredClasses()));
        due(classes.size() + 1 <= MOST_CLASSES, "rule 11: " + classes.size() + " classes inside");
        for (Class<?> c : classes) {
            due(Modifier.isStatic(c.getModifiers()) && !Modifier.isPublic(c.getModifiers()), "rule 2: " + c);
            for (Method method : c.getDeclaredMethods()) {
                due(!publicNames.contains(method.getName()), "rule 1: " + method + " bears a public name");
            }
            for (Constructor<?> made : c.getDeclaredConstructors()) {
                due(!Modifier.isPublic(made.getModifiers()), "rule 1: " + made);
            }
            int fields = 0;
            for (Field field : c.getDeclaredFields()) {
                boolean constant = Modifier.isStatic(field.getModifiers());
                fields += constant ? 0 : 1;
                due(!constant || Modifier.isFinal(field.getModifiers()), "rule 5: " + field);
            }
            due(fields <= MOST_FIELDS, "rule 11: " + c + " has " + fields + " fields");
        }
    }
}
