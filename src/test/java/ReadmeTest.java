import java.io.IOException;
import java.lang.reflect.Method;
import java.lang.reflect.Modifier;
import java.net.URL;
import java.net.URLClassLoader;
import java.nio.file.Files;
import java.nio.file.Path;
import java.util.ArrayList;
import java.util.Comparator;
import java.util.List;
import java.util.Set;
import java.util.TreeSet;
import java.util.regex.Matcher;
import java.util.regex.Pattern;
import java.util.stream.Stream;
import javax.tools.JavaCompiler;
import javax.tools.ToolProvider;

/** What README.md shows is so: its rows compile, and each call answers what stands beside it. */
public final class ReadmeTest {
    private static final Path PAGE = Path.of("README.md");
    private static final Path TESTS = Path.of("src/test/java");
    /** What keeps the answer, the call, the answer that is told. */
    private static final Pattern ROW = Pattern.compile(
        "((?:int|boolean) \\w+ = )?((?:sums\\.\\w+|tell)\\(.*\\)); *// (-?\\d+|true|false|throws \\w+): \\S.*");

    private final Due due = new Due();
    private final List<String> methods = new ArrayList<>();
    private final List<String> rows = new ArrayList<>();

    /** Sorts the page's Java into methods and the rows of the one run. */
    private void take(List<String> page) {
        List<String> block = null;
        for (String line : page) {
            if (line.equals("```java")) {
                block = new ArrayList<>();
            } else if (line.startsWith("```") && block != null) {
                boolean method = !block.isEmpty() && block.get(0).startsWith("static ");
                (method ? methods : rows).addAll(block);
                block = null;
            } else if (block != null) {
                block.add(line);
            }
        }
    }

    private static boolean asks(String row) {
        return row.contains("sums.") || row.contains("tell(");
    }

    private static String quoted(String text) {
        return "\"" + text.replace("\\", "\\\\").replace("\"", "\\\"") + "\"";
    }

    /** A row with its call held against what the row tells; rows that ask nothing stay as they are. */
    private String written(String row) {
        if (!asks(row)) {
            return row;
        }
        Matcher told = ROW.matcher(row);
        boolean fits = told.matches();
        due.is("a row that asks tells its answer: " + row, fits, true);
        if (!fits) {
            return "";
        }
        String kept = told.group(1) == null ? "" : told.group(1);
        String noted = quoted(told.group(2)) + ", " + quoted(told.group(3));
        if (told.group(3).startsWith("throws ")) {
            return "try { note(" + noted + ", String.valueOf(" + told.group(2) + ")); }"
                + " catch (RuntimeException e) { note(" + noted + ", \"throws \" + e.getClass().getSimpleName()); }";
        }
        return kept + "asked(" + noted + ", " + told.group(2) + ");";
    }

    private String program() {
        StringBuilder text = new StringBuilder("public final class Shown {\n"
            + "public static final java.util.List<String[]> ANSWERS = new java.util.ArrayList<>();\n"
            + "static void note(String call, String told, String got) {"
            + " ANSWERS.add(new String[] {call, told, got}); }\n"
            + "static int asked(String call, String told, int got) {"
            + " note(call, told, String.valueOf(got)); return got; }\n"
            + "static boolean asked(String call, String told, boolean got) {"
            + " note(call, told, String.valueOf(got)); return got; }\n");
        for (String line : methods) {
            text.append(line).append('\n');
        }
        text.append("public static void run() {\n");
        for (String row : rows) {
            text.append(written(row)).append('\n');
        }
        return text.append("}\n}\n").toString();
    }

    private void compileAndRun(Path room) throws IOException, ReflectiveOperationException {
        Path source = Files.writeString(room.resolve("Shown.java"), program());
        JavaCompiler compiler = ToolProvider.getSystemJavaCompiler();
        due.is("there is a compiler", compiler != null, true);
        if (compiler == null) {
            return;
        }
        int refused = compiler.run(null, null, null, "-encoding", "UTF-8", "-d", room.toString(),
            "-cp", System.getProperty("java.class.path"), source.toString());
        due.is("the page's Java compiles", refused, 0);
        if (refused != 0) {
            return;
        }
        try (URLClassLoader loader = new URLClassLoader(new URL[] {room.toUri().toURL()})) {
            Class<?> shown = loader.loadClass("Shown");
            shown.getMethod("run").invoke(null);
            for (Object answer : (List<?>) shown.getField("ANSWERS").get(null)) {
                String[] row = (String[]) answer;
                due.is(row[0] + " answered " + row[2] + ", the page tells " + row[1], row[2].equals(row[1]), true);
            }
        }
    }

    private void showsAllCalls() {
        String all = String.join("\n", rows);
        for (Method method : SealedSums.class.getDeclaredMethods()) {
            if (Modifier.isPublic(method.getModifiers())) {
                due.is("the page shows " + method.getName(), all.contains("sums." + method.getName() + "("), true);
            }
        }
    }

    private void hasAllTests(List<String> page) throws IOException {
        Set<String> told = new TreeSet<>();
        for (String line : page) {
            if (line.matches("\\| \\w+Test \\|.*")) {
                told.add(line.substring(2, line.indexOf(' ', 2)));
            }
        }
        Set<String> there = new TreeSet<>();
        try (Stream<Path> files = Files.list(TESTS)) {
            files.map(file -> file.getFileName().toString()).filter(name -> name.endsWith("Test.java"))
                .forEach(name -> there.add(name.substring(0, name.length() - 5)));
        }
        due.is("the page's tests " + told + " are those that are there, " + there, told.equals(there), true);
    }

    private static void clear(Path room) throws IOException {
        try (Stream<Path> files = Files.walk(room)) {
            for (Path file : files.sorted(Comparator.reverseOrder()).toList()) {
                Files.delete(file);
            }
        }
    }

    public static void main(String[] args) throws IOException, ReflectiveOperationException {
        List<String> page = Files.readAllLines(PAGE);
        ReadmeTest test = new ReadmeTest();
        test.due.topic("README.md");
        test.take(page);
        Path room = Files.createTempDirectory("shown");
        try {
            test.compileAndRun(room);
        } finally {
            clear(room);
        }
        test.showsAllCalls();
        test.hasAllTests(page);
        test.due.end();
    }
}
