import java.io.IOException;
import java.nio.file.Files;
import java.nio.file.Path;
import java.util.ArrayList;
import java.util.HashSet;
import java.util.List;
import java.util.Map;
import java.util.Set;
import java.util.TreeMap;
import java.util.regex.Matcher;
import java.util.regex.Pattern;

/**
 * Ties tests to the sentences of the document. Each test quotes what it is about, and the quote must stand in one
 * sentence of its promise alone; each sentence that can name a boundary case must be quoted by a test of its own.
 */
final class Boundaries {
    /** The section "Terms" counts as the promise 0. */
    static final int TERMS = 0;

    private static final Path DOCUMENT = Path.of("../shared/DOC.md");
    private static final Pattern HEADING = Pattern.compile("## (Terms|Promise (\\d+):.*)");
    /** Sentences that only name what another sentence of the same promise tells in full. */
    private static final Pattern PLAIN = Pattern.compile("\\w+( and \\w+)?\\.|Ahead of the calls .*"
            + "|`\\w+`: [^0-9]*|(Lets|Gives|Posts|Settles|Appends) [^0-9]*\\."
            + "|Returns (a number|a character|an account|the number|the account|the toll|the troll|the goat|the hour"
            + "|the character|the mean|the share|the sum|the error position|how many|how many coins|how many hours"
            + "|whether it is|whether this is so)( of a \\w+| of the line)?\\.");

    private final Map<Integer, List<String>> sentences = new TreeMap<>();
    private final Set<String> quoted = new HashSet<>();
    private int tests = 0;

    Boundaries(int first, int last) throws IOException {
        Map<Integer, String> sections = sections(Files.readString(DOCUMENT));
        for (int promise = first; promise <= last; promise++) {
            String section = sections.getOrDefault(promise, "");
            Check.no("the document has the promise " + promise, section.isEmpty());
            sentences.put(promise, sentences(section));
        }
    }

    private static Map<Integer, String> sections(String document) {
        Map<Integer, String> sections = new TreeMap<>();
        int promise = -1;
        for (String line : document.split("\n")) {
            Matcher heading = HEADING.matcher(line);
            if (heading.matches()) {
                promise = heading.group(2) == null ? TERMS : Integer.parseInt(heading.group(2));
            } else if (line.startsWith("## ")) {
                promise = -1;
            } else {
                sections.merge(promise, line + "\n", String::concat);
            }
        }
        return sections;
    }

    /** The texts in code fences are left out, and the head of a method in front of its description. */
    private static List<String> sentences(String section) {
        List<String> sentences = new ArrayList<>();
        String text = section.replaceAll("(?s)```.*?```", "").replaceAll("\n- ", "\n\n- ");
        for (String paragraph : text.split("\n\\s*\n")) {
            String plain = paragraph.trim().replaceAll("\\s+", " ")
                    .replaceFirst("^`[^`]*\\([^`]*\\)[^`]*`: ", "").replaceFirst("^- ", "");
            for (String sentence : plain.split("(?<=\\.) (?=[A-Z])")) {
                if (!sentence.isEmpty()) {
                    sentences.add(sentence);
                }
            }
        }
        return sentences;
    }

    /** Runs one test of what a sentence of a promise says. */
    void test(int promise, String quote, Runnable body) {
        tests++;
        Check.about("promise " + promise + ", \"" + quote + "\": ");
        int found = 0;
        for (String sentence : sentences.getOrDefault(promise, List.of())) {
            if (sentence.contains(quote)) {
                found++;
                quoted.add(promise + " " + sentence);
            }
        }
        Check.same("sentences that are quoted", 1, found);
        try {
            body.run();
        } catch (RuntimeException thrown) {
            Check.same("ends", "as is due", thrown.toString());
        }
        Check.about("");
    }

    void finish(String name) {
        int asked = 0;
        for (Map.Entry<Integer, List<String>> promise : sentences.entrySet()) {
            for (String sentence : promise.getValue()) {
                if (!PLAIN.matcher(sentence).matches()) {
                    asked++;
                    Check.yes("promise " + promise.getKey() + " has a test of: " + sentence,
                            quoted.contains(promise.getKey() + " " + sentence));
                }
            }
        }
        System.out.println(name + ": " + tests + " tests of " + asked + " sentences of the document");
        Check.finish(name);
    }
}
