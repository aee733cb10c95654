import java.io.IOException;
import java.lang.reflect.Constructor;
import java.lang.reflect.Field;
import java.lang.reflect.Member;
import java.lang.reflect.Method;
import java.lang.reflect.Modifier;
import java.nio.file.Files;
import java.nio.file.Path;
import java.util.ArrayList;
import java.util.List;
import java.util.Set;
import java.util.TreeSet;
import java.util.regex.Matcher;
import java.util.regex.Pattern;

/** The face of the class is the document's, and its source keeps to what the language leaves. */
public final class LanguageTest {
    private static final Path SOURCE = Path.of("src/main/java/MaySheep.java");
    private static final Path DOCUMENT = Path.of("../shared/DOC.md");

    private final Checks checks = new Checks();

    /** The source without comments and with empty texts. */
    private static String bare(String source) {
        return source.replaceAll("(?s)/\\*.*?\\*/", " ").replaceAll("//[^\n]*", " ")
            .replaceAll("\"(\\\\.|[^\"\\\\])*\"", "\"\"");
    }

    private static Set<String> facesOfDocument() throws IOException {
        String text = Files.readString(DOCUMENT);
        Matcher m = Pattern.compile("public int (\\w+)\\(([^)]*)\\);").matcher(text);
        Set<String> all = new TreeSet<>();
        while (m.find()) {
            int many = m.group(2).isBlank() ? 0 : m.group(2).split(",").length;
            all.add(m.group(1) + " " + many);
        }
        return all;
    }

    private void face() throws IOException {
        Set<String> all = new TreeSet<>();
        Set<String> names = new TreeSet<>();
        for (Method m : MaySheep.class.getDeclaredMethods()) {
            if (Modifier.isPublic(m.getModifiers())) {
                all.add(m.getName() + " " + m.getParameterCount());
                names.add(m.getName());
                checks.holds("an int from " + m, m.getReturnType() == int.class && !Modifier.isStatic(m.getModifiers()));
                for (Class<?> type : m.getParameterTypes()) {
                    checks.holds("ints for " + m, type == int.class);
                }
            }
        }
        checks.holds("the document's methods, not " + all, all.equals(facesOfDocument()));
        checks.due("31 methods", all.size(), 31);
        checks.holds("public and final", Modifier.toString(MaySheep.class.getModifiers()).equals("public final"));
        Constructor<?>[] made = MaySheep.class.getDeclaredConstructors();
        checks.holds("one constructor", made.length == 1 && Modifier.isPublic(made[0].getModifiers())
            && made[0].getParameterCount() == 0);
        hidden(names);
    }

    private void hidden(Set<String> names) {
        List<Class<?>> classes = new ArrayList<>(List.of(MaySheep.class.getDeclaredClasses()));
        for (Class<?> inside : classes) {
            checks.holds("static: " + inside, Modifier.isStatic(inside.getModifiers()));
            checks.holds("not public: " + inside, !Modifier.isPublic(inside.getModifiers()));
        }
        List<Member> own = new ArrayList<>(List.of(MaySheep.class.getDeclaredFields()));
        own.addAll(List.of(MaySheep.class.getDeclaredMethods()));
        for (Member m : own) {
            boolean isFace = Modifier.isPublic(m.getModifiers()) && (names.contains(m.getName()) || m.getName().equals("NONE"));
            checks.holds("private: " + m, isFace || Modifier.isPrivate(m.getModifiers()));
        }
        classes.add(MaySheep.class);
        for (Class<?> each : classes) {
            int fields = 0;
            for (Field f : each.getDeclaredFields()) {
                boolean isStatic = Modifier.isStatic(f.getModifiers());
                checks.holds("final: " + f, !isStatic || Modifier.isFinal(f.getModifiers()));
                fields += isStatic ? 0 : 1;
            }
            checks.holds("some twenty fields: " + each, fields <= 20);
            for (Method m : each.getDeclaredMethods()) {
                checks.holds("seven parameters: " + m, m.getParameterCount() <= 7);
                checks.holds("no face's name: " + m, each == MaySheep.class && Modifier.isPublic(m.getModifiers())
                    || !names.contains(m.getName()));
            }
        }
        checks.holds("some twelve classes", classes.size() <= 12);
    }

    private void source() throws IOException {
        String source = Files.readString(SOURCE);
        checks.holds("signs 1 to 127", source.chars().allMatch(c -> c > 0 && c < 128));
        String bare = bare(source);
        String[] words = {"throw", "throws", "try", "catch", "finally", "synchronized", "assert", "package", "native",
            "volatile", "transient", "protected", "Object", "Exception", "Random", "Thread", "enum Object", "hashCode",
            "toString", "double", "float", "var", "yield", "goto"};
        for (String word : words) {
            checks.holds("no " + word, !Pattern.compile("\\b" + word + "\\b").matcher(bare).find());
        }
        checks.holds("no lambda", !bare.contains("->") && !bare.contains("::"));
        checks.holds("no Exact", !bare.contains("Exact"));
        Matcher imports = Pattern.compile("import ([^;]*);").matcher(bare);
        while (imports.find()) {
            checks.holds("import " + imports.group(1), imports.group(1).equals("java.util.Arrays"));
        }
        Matcher library = Pattern.compile("\\b(System|Math|Integer|Long|Arrays)\\.(\\w+)").matcher(bare);
        Set<String> allowed = Set.of("System.arraycopy", "Math.max", "Math.min", "Math.abs", "Integer.bitCount",
            "Arrays.copyOf", "Arrays.fill");
        while (library.find()) {
            checks.holds("library: " + library.group(), allowed.contains(library.group()));
        }
        checks.holds("no static block", !Pattern.compile("static\\s*\\{").matcher(bare).find());
        lengths(source);
    }

    /** A method's closing brace stands as far in as its first line. */
    private void lengths(String source) {
        String[] lines = source.split("\n");
        for (int i = 0; i < lines.length; i++) {
            Matcher head = Pattern.compile("^( +)[\\w\\[\\] ]*\\b(\\w+)\\([^;]*\\) \\{$").matcher(lines[i]);
            if (head.find() && !Set.of("if", "for", "while", "switch").contains(head.group(2))) {
                int end = i;
                while (!lines[end].equals(head.group(1) + "}")) {
                    end++;
                }
                checks.holds("some sixty lines: " + head.group(2), end - i < 60);
            }
            checks.holds("a line of 120 signs: " + (i + 1), lines[i].length() <= 120);
        }
    }

    public static void main(String[] args) throws IOException {
        LanguageTest t = new LanguageTest();
        t.face();
        t.source();
        t.checks.exit("language");
    }
}
