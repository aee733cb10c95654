import java.io.IOException;
import java.nio.file.Files;
import java.nio.file.Path;
import java.util.Arrays;
import java.util.LinkedHashMap;
import java.util.Map;
import java.util.regex.Matcher;
import java.util.regex.Pattern;

/** Tests under the sentences of the document that they stand for; all that names a bound must lie within one. */
final class Sentences {
    private static final Path DOCUMENT = Path.of("../shared/DOC.md");
    private static final Pattern BOUND = Pattern.compile("[0-9]+|NONE|\\b(?:at most|at least|without|nothing happens"
        + "|none comes|empty|once|of several|above|below|beyond|too|downwards|towards|round|nobody|nobody's|nothing"
        + "|least|fewest|most|greatest|first|last|ninth|fifth|second|there is none|never|stays?)\\b");

    private final Checks checks;
    private final Map<String, String> parts = new LinkedHashMap<>();
    private final Map<String, boolean[]> held = new LinkedHashMap<>();
    private String part = "";

    Sentences(Checks checks) throws IOException {
        this.checks = checks;
        for (String section : Files.readString(DOCUMENT).split("(?m)^## ")) {
            String[] halves = section.split("\n", 2);
            String heading = halves[0].replaceAll(":.*", "");
            String text = halves.length < 2 ? "" : halves[1].replaceAll("```(text)?", " ").replaceAll("\\s+", " ");
            if (heading.startsWith("Promise")) {
                text = text.replaceFirst("^ ?`[^`]*`: ", "");
            }
            parts.put(heading, text);
            held.put(heading, new boolean[text.length()]);
        }
    }

    /** The part of the document, by its heading, that the sentences which come are from. */
    void in(String heading) {
        part = heading;
        checks.holds("a part of the document: " + heading, parts.containsKey(heading));
    }

    void says(String sentence, Runnable test) {
        String text = parts.getOrDefault(part, "");
        int from = text.indexOf(sentence);
        checks.holds("said once in " + part + ": " + sentence, from >= 0 && text.indexOf(sentence, from + 1) < 0);
        if (from >= 0) {
            Arrays.fill(held.get(part), from, from + sentence.length(), true);
        }
        int before = checks.made();
        checks.about(part + ": " + sentence);
        test.run();
        checks.about("");
        checks.holds("a test of its own: " + sentence, checks.made() > before);
    }

    /** All bounds that parts with such headings name have a test. */
    void areAllHeld(String headings) {
        int many = 0;
        for (Map.Entry<String, String> each : parts.entrySet()) {
            if (each.getKey().startsWith(headings)) {
                many++;
                areHeld(each.getKey(), each.getValue());
            }
        }
        checks.holds("parts of the document: " + headings, many > 0);
    }

    private void areHeld(String heading, String text) {
        Matcher bound = BOUND.matcher(text);
        while (bound.find()) {
            String around = text.substring(Math.max(0, bound.start() - 30), Math.min(text.length(), bound.end() + 30));
            checks.holds(heading + " has a test for " + bound.group() + " in: " + around, held.get(heading)[bound.start()]);
        }
    }
}
