import java.io.File;
import java.io.IOException;
import java.lang.reflect.Method;
import java.lang.reflect.Modifier;
import java.net.URL;
import java.net.URLClassLoader;
import java.nio.file.Files;
import java.nio.file.Path;
import java.util.Arrays;
import java.util.List;
import java.util.Set;
import java.util.TreeSet;
import java.util.regex.Matcher;
import java.util.regex.Pattern;
import java.util.stream.Collectors;
import java.util.stream.Stream;
import javax.tools.JavaCompiler;
import javax.tools.ToolProvider;

/** What README.md shows of the use of the class answers as it says there. */
public final class ReadmeTest {
    private static final Path README = Path.of("README.md");
    private static final Path DOCUMENT = Path.of("../shared/DOC.md");
    private static final Path TESTS = Path.of("src/test/java");
    private static final Pattern PIECE = Pattern.compile("(?s)```java\n(.*?)```");
    private static final Pattern CALL = Pattern.compile("(x\\.(\\w+)\\(.*\\)); +// (-?[0-9]+|NONE)(: .+)?");
    private static final Pattern ROW = Pattern.compile("\\| `(\\w+)\\(([^)]*)\\)` \\| .+ \\| ([^|]+) \\|");
    private static final int WILD = Integer.MIN_VALUE;

    private final Checks checks = new Checks();
    private final String page = Files.readString(README);
    private final Set<String> face = new TreeSet<>();
    private final Set<String> shown = new TreeSet<>();
    private final StringBuilder members = new StringBuilder();
    private final StringBuilder statements = new StringBuilder();

    private ReadmeTest() throws IOException {
        for (Method m : MaySheep.class.getDeclaredMethods()) {
            if (Modifier.isPublic(m.getModifiers())) {
                face.add(m.getName());
            }
        }
    }

    /** A call that is shown must show its answer, so that none goes unchecked. */
    private void take(String line) {
        Matcher call = CALL.matcher(line);
        if (call.matches()) {
            shown.add(call.group(2));
            String text = call.group(1).replace("\\", "\\\\").replace("\"", "\\\"");
            statements.append("due(\"").append(text).append("\", ").append(call.group(1)).append(", ");
            statements.append(call.group(3)).append(");\n");
        } else {
            checks.holds("an answer behind: " + line, !line.startsWith("x."));
            statements.append(line).append('\n');
        }
    }

    private void pieces() {
        Matcher piece = PIECE.matcher(page);
        while (piece.find()) {
            if (piece.group(1).startsWith("static ")) {
                members.append(piece.group(1));
            } else {
                piece.group(1).lines().forEach(this::take);
            }
        }
        checks.same("calls that are shown with answers", shown.toString(), face.toString());
    }

    private String program() {
        return "public final class ReadmeUse {\n"
            + "private static final int NONE = MaySheep.NONE;\n"
            + "public static final java.util.List<Object[]> ANSWERS = new java.util.ArrayList<>();\n"
            + "private static void due(String call, int got, int want) {"
            + " ANSWERS.add(new Object[] {call, got, want}); }\n"
            + members + "public static void run() {\n" + statements + "}\n}\n";
    }

    private void run() throws Exception {
        Path out = Files.createTempDirectory("readme");
        Path source = out.resolve("ReadmeUse.java");
        Files.writeString(source, program());
        JavaCompiler javac = ToolProvider.getSystemJavaCompiler();
        String classes = System.getProperty("java.class.path");
        boolean isCompiled = javac != null
            && javac.run(null, null, null, "-d", out.toString(), "-cp", classes, source.toString()) == 0;
        checks.holds("README.md compiles", isCompiled);
        if (isCompiled) {
            URL[] places = {out.toUri().toURL()};
            try (URLClassLoader loader = new URLClassLoader(places, ReadmeTest.class.getClassLoader())) {
                Class<?> use = loader.loadClass("ReadmeUse");
                use.getMethod("run").invoke(null);
                List<?> answers = (List<?>) use.getField("ANSWERS").get(null);
                for (Object each : answers) {
                    Object[] answer = (Object[]) each;
                    checks.due("README.md: " + answer[0], (Integer) answer[1], (Integer) answer[2]);
                }
                checks.holds("calls are shown", answers.size() > face.size());
            }
        }
        for (File file : out.toFile().listFiles()) {
            file.delete();
        }
        out.toFile().delete();
    }

    /** No hill, no room for bytes or rules: whatever is told or asked wildly is refused. */
    private static MaySheep full() {
        MaySheep x = new MaySheep();
        for (int n = 0; n < 6; n++) {
            Feeding.rule(x, "go 1");
        }
        Feeding.put(x, " ".repeat(400));
        return x;
    }

    private static int called(String name, int many) throws Exception {
        Class<?>[] types = new Class<?>[many];
        Object[] wild = new Object[many];
        Arrays.fill(types, int.class);
        Arrays.fill(wild, WILD);
        return (Integer) MaySheep.class.getMethod(name, types).invoke(full(), wild);
    }

    private void rows() throws Exception {
        String document = Files.readString(DOCUMENT);
        Set<String> told = new TreeSet<>();
        Matcher row = ROW.matcher(page);
        while (row.find()) {
            String name = row.group(1);
            String[] names = row.group(2).isEmpty() ? new String[0] : row.group(2).split(", ");
            String asked = Stream.of(names).map(each -> "int " + each).collect(Collectors.joining(", "));
            checks.holds("told once: " + name, told.add(name));
            checks.holds("the document's " + row.group(), document.contains("public int " + name + "(" + asked + ");"));
            int refused = called(name, names.length);
            if (row.group(3).equals("-2 - fault")) {
                checks.due(name + " at the end of a full tape of blanks", refused, -2 - (1 + 8 * 400));
            } else {
                checks.due(name + ", refused", refused, row.group(3).equals("`NONE`") ? -1 : Integer.parseInt(row.group(3)));
            }
        }
        checks.same("calls with a row of their own", told.toString(), face.toString());
    }

    private void tests() throws IOException {
        Set<String> named = new TreeSet<>();
        Matcher name = Pattern.compile("`(\\w+Test)`").matcher(page);
        while (name.find()) {
            named.add(name.group(1));
        }
        try (Stream<Path> files = Files.list(TESTS)) {
            Set<String> there = files.map(file -> file.getFileName().toString().replace(".java", ""))
                .collect(Collectors.toCollection(TreeSet::new));
            checks.same("tests that are named", named.toString(), there.toString());
        }
        checks.holds("how to run them", page.contains("\n    .ci/run\n") && Files.isExecutable(Path.of(".ci/run")));
    }

    public static void main(String[] args) throws Exception {
        ReadmeTest test = new ReadmeTest();
        test.pieces();
        test.run();
        test.rows();
        test.tests();
        test.checks.exit("readme");
    }
}
