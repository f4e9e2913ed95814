import java.io.IOException;
import java.nio.file.Files;
import java.nio.file.Path;
import java.util.HashSet;
import java.util.LinkedHashMap;
import java.util.Map;
import java.util.Set;

/**
 * Tests of single sentences: each names the section of the document (a promise's number, the part of
 * the terms, or "use") and quotes the sentence that it holds, so that nobody has to guess which.
 */
abstract class Edges extends Runs {
    private static final Path DOCUMENT = Path.of("../shared/DOC.md");
    private static final Map<String, String> sections = sectionsOf(text());
    private static final Set<String> met = new HashSet<>();
    private static int edges;
    private static int askedAhead;

    /** A test of its own begins. */
    static void edge(String section, String sentence) {
        closeLatest();
        promise = (section.matches("\\d+") ? "promise " : "") + section + ", \"" + sentence + "\"";
        edges++;
        met.add(section);
        if (!sections.getOrDefault(section, "").contains(sentence)) {
            wrong++;
            System.out.println(promise + ": the document does not say so there");
        }
    }

    static void closeEdges(String... due) {
        closeLatest();
        for (String section : due) {
            if (!met.contains(section)) {
                wrong++;
                System.out.println("no edge of " + section + " is held");
            }
        }
        System.out.println(edges + " sentences held");
        close();
    }

    /** Numbers that are none: just outside, as far as can be, and such as come back inside when they wrap around. */
    static int[] outside(int beyond) {
        return new int[] {-1, -2, beyond, beyond + 1, beyond + 256, 1 << 30, 1 << 31, FAR, FAR_BELOW + 1, -(1 << 30)};
    }

    private static void closeLatest() {
        if (edges > 0 && asked == askedAhead) {
            wrong++;
            System.out.println(promise + ": nothing is asked");
        }
        askedAhead = asked;
    }

    private static String text() {
        try {
            return Files.readString(DOCUMENT);
        } catch (IOException e) {
            System.out.println("can't read " + DOCUMENT + ": " + e.getMessage());
            return "";
        }
    }

    private static Map<String, String> sectionsOf(String text) {
        Map<String, String> all = new LinkedHashMap<>();
        String section = "";
        for (String line : text.split("\n")) {
            if (line.startsWith("## ")) {
                section = line.equals("## What it is") ? "use" : line.replaceAll("^## (?:Promise (\\d+):)?.*", "$1");
            } else if (line.matches("(I|II|III|IV)\\. .*")) {
                section = "terms " + line.substring(0, line.indexOf('.'));
            }
            all.merge(section, line, (a, b) -> a + "\n" + b);
        }
        return all;
    }
}
