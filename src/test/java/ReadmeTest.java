import java.io.IOException;
import java.lang.reflect.Method;
import java.lang.reflect.Modifier;
import java.net.URL;
import java.net.URLClassLoader;
import java.nio.file.Files;
import java.nio.file.Path;
import java.util.ArrayList;
import java.util.Arrays;
import java.util.List;
import java.util.Set;
import java.util.TreeSet;
import java.util.regex.Matcher;
import java.util.regex.Pattern;
import java.util.stream.Stream;
import javax.tools.ToolProvider;

/** What README.md says of use and of the tests: its example and its tables. */
public final class ReadmeTest {
    private static final Pattern ANSWERED = Pattern.compile("\\w+ (\\w+) = .*; *// (-?\\d+): .*");
    private static final Pattern BOUNDS = Pattern.compile("(\\d+) \\.\\. (2\\^40|\\d+)");
    private static final Pattern CODE = Pattern.compile("`([^`]*)`");

    private static final Check check = new Check();

    public static void main(String[] args) throws Exception {
        List<String> lines = Files.readAllLines(Path.of("README.md"));
        example(block(lines, "```java"));
        events(table(lines, "| kind |"));
        calls(table(lines, "| call |"));
        tests(table(lines, "| test |"));
        check.isTrue("it tells how the tests are run",
            block(lines, "```sh").equals(List.of(".ci/run")));
        check.isTrue("that can be run", Files.isExecutable(Path.of(".ci/run")));
        check.end();
    }

    private static List<String> block(List<String> lines, String fence) {
        int first = lines.indexOf(fence) + 1;
        List<String> rest = lines.subList(first, lines.size());
        return rest.subList(0, rest.indexOf("```"));
    }

    /** The cells of each row below the one that begins so. */
    private static List<String[]> table(List<String> lines, String head) {
        List<String[]> rows = new ArrayList<>();
        boolean inside = false;
        for (String line : lines) {
            inside = line.startsWith(head) || inside && line.startsWith("|");
            if (inside && !line.startsWith(head) && !line.startsWith("| ---")) {
                String[] cells = line.substring(1, line.length() - 1).split("\\|");
                rows.add(Arrays.stream(cells).map(String::trim).toArray(String[]::new));
            }
        }
        check.isTrue("there is a table " + head, !rows.isEmpty());
        return rows;
    }

    /** The example is compiled and run as it stands; each answer is the one behind its line. */
    private static void example(List<String> lines) throws Exception {
        List<String> names = new ArrayList<>();
        List<Long> due = new ArrayList<>();
        for (String line : lines) {
            Matcher matcher = ANSWERED.matcher(line);
            if (matcher.matches()) {
                names.add(matcher.group(1));
                due.add(Long.parseLong(matcher.group(2)));
            }
        }
        long[] got = answers(String.join("\n", lines), names);
        for (int i = 0; i < got.length; i++) {
            check.same(names.get(i) + " of the example", got[i], due.get(i));
        }
        for (Method method : face()) {
            check.isTrue("the example has " + method.getName(),
                lines.stream().anyMatch(line -> line.contains("log." + method.getName() + "(")));
        }
    }

    private static long[] answers(String body, List<String> names) throws Exception {
        Path folder = Files.createTempDirectory("readme");
        Path source = folder.resolve("Example.java");
        Path compiled = folder.resolve("Example.class");
        try {
            Files.writeString(source, "public class Example {\n"
                + "public static long[] answers() {\n" + body + "\n"
                + "return new long[] {" + String.join(", ", names) + "};\n}\n}\n");
            int failed = ToolProvider.getSystemJavaCompiler().run(null, null, null, "-cp",
                System.getProperty("java.class.path"), "-d", folder.toString(), source.toString());
            check.same("what compiling the example", failed, 0);
            try (URLClassLoader loader = new URLClassLoader(new URL[] {folder.toUri().toURL()})) {
                return (long[]) loader.loadClass("Example").getMethod("answers").invoke(null);
            }
        } finally {
            Files.deleteIfExists(source);
            Files.deleteIfExists(compiled);
            Files.deleteIfExists(folder);
        }
    }

    private static List<Method> face() {
        return Arrays.stream(EventLog.class.getDeclaredMethods())
            .filter(method -> Modifier.isPublic(method.getModifiers())).toList();
    }

    /** Each kind takes the bounds that are told of a and b, and nothing beyond them. */
    private static void events(List<String[]> rows) {
        check.same("how many kinds are told", rows.size(), 5);
        for (int kind = 0; kind < rows.size(); kind++) {
            String[] row = rows.get(kind);
            check.same("the kind of " + row[1], row[0], String.valueOf(kind));
            long[] boundsA = bounds(row[2]);
            long[] boundsB = bounds(row[3]);
            long a = boundsA.length > 0 ? boundsA[0] : 1;
            long b = boundsB.length > 0 ? boundsB[0] : -1;
            for (long bound : boundsA) {
                isTaken(kind, bound, b, true);
            }
            for (long bound : boundsB) {
                isTaken(kind, a, bound, true);
            }
            if (boundsA.length > 0) {
                isTaken(kind, boundsA[0] - 1, b, false);
                isTaken(kind, boundsA[1] + 1, b, false);
            }
            if (boundsB.length > 0) {
                isTaken(kind, a, boundsB[0] - 1, false);
                isTaken(kind, a, boundsB[1] + 1, false);
            }
            isTaken(kind, a, b, true);
        }
    }

    /** The first and the last one, or nothing where none are told. */
    private static long[] bounds(String cell) {
        Matcher matcher = BOUNDS.matcher(cell);
        if (!matcher.find()) {
            return new long[0];
        }
        boolean far = matcher.group(2).equals("2^40");
        return new long[] {Long.parseLong(matcher.group(1)),
            far ? Check.FARTHEST : Long.parseLong(matcher.group(2))};
    }

    private static void isTaken(int kind, long a, long b, boolean due) {
        boolean taken = true;
        try {
            new EventLog().add(kind, 0, a, (int) b);
        } catch (IllegalArgumentException e) {
            taken = false;
        }
        check.same("that add(" + kind + ", 0, " + a + ", " + b + ") is taken",
            String.valueOf(taken), String.valueOf(due));
    }

    private static void calls(List<String[]> rows) {
        Set<String> told = new TreeSet<>();
        for (String[] row : rows) {
            String thrown = row.length > 2 ? row[2] : "";
            told.add(codes(row[0]).get(0).replaceAll(" \\w+([,)])", "$1") + " " + codes(thrown));
        }
        Set<String> due = new TreeSet<>();
        for (Method method : face()) {
            List<String> types = new ArrayList<>();
            for (Class<?> type : method.getParameterTypes()) {
                types.add(type.getSimpleName());
            }
            List<String> thrown = new ArrayList<>();
            for (Class<?> type : method.getExceptionTypes()) {
                thrown.add(type.getSimpleName());
            }
            due.add(method.getReturnType().getSimpleName() + " " + method.getName() + "("
                + String.join(", ", types) + ") " + thrown);
        }
        check.same("the table of calls", told.toString(), due.toString());
    }

    private static List<String> codes(String cell) {
        return CODE.matcher(cell).results().map(found -> found.group(1)).toList();
    }

    private static void tests(List<String[]> rows) throws IOException {
        Set<String> told = new TreeSet<>();
        for (String[] row : rows) {
            told.add(codes(row[0]).get(0));
        }
        Set<String> due = new TreeSet<>();
        try (Stream<Path> files = Files.list(Path.of("src/test/java"))) {
            files.map(file -> file.getFileName().toString())
                .filter(name -> name.endsWith("Test.java"))
                .forEach(name -> due.add(name.replace(".java", "")));
        }
        check.same("the table of tests", told.toString(), due.toString());
    }
}
