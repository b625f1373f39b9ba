import java.io.IOException;
import java.nio.file.DirectoryStream;
import java.nio.file.Files;
import java.nio.file.Path;
import java.util.ArrayList;
import java.util.LinkedHashMap;
import java.util.List;
import java.util.Map;
import java.util.regex.Matcher;
import java.util.regex.Pattern;

/**
 * The tests name the sentences that they ask for by CHECK.sentence(part, words): the words stand in that
 * part of the document, and no sentence of Terms, of sections 1 to 3 and of the promises is without a test.
 */
public final class SentencesTest {
    private static final Pattern NAMED =
        Pattern.compile("CHECK\\.sentence\\(\"([^\"]*)\",\\s*\"((?:[^\"\\\\]|\\\\.)*)\"\\)");
    private static final Pattern PARTS =
        Pattern.compile("## (Terms)|## Promise ([0-9]+):|======== ([0-9]) |## |Ahead of the calls");
    private static final Pattern SENTENCE_END = Pattern.compile("(?<=[^. ])\\.(?= |$)");
    /** It tells how to read the document, not what a call answers. */
    private static final String NO_TEST = "Words in capitals are told where they come first.";

    private static final Check CHECK = new Check();

    public static void main(String[] args) throws IOException {
        Map<String, String> parts = parts(read(Path.of(System.getProperty("lentdrains.doc", "../shared/DOC.md"))));
        Map<String, List<String>> named = named(Path.of(System.getProperty("lentdrains.tests", "src/test/java")));
        CHECK.is("parts of the document", parts.size(), 1 + 3 + 29);
        for (Map.Entry<String, List<String>> part : named.entrySet()) {
            for (String words : part.getValue()) {
                boolean stands = parts.getOrDefault(part.getKey(), "").contains(words);
                CHECK.is("'" + words + "' stands in " + part.getKey(), stands ? 1 : 0, 1);
            }
        }
        for (Map.Entry<String, String> part : parts.entrySet()) {
            everySentence(part.getKey(), part.getValue(), named.getOrDefault(part.getKey(), List.of()));
        }
        CHECK.end();
    }

    private static String read(Path path) throws IOException {
        return Files.readString(path).replace("```text", " ").replace("```", " ").replaceAll("\\s+", " ");
    }

    private static Map<String, String> parts(String doc) {
        Map<String, String> parts = new LinkedHashMap<>();
        Matcher m = PARTS.matcher(doc);
        String name = "";
        int begun = 0;
        boolean more = true;
        while (more) {
            more = m.find();
            if (!name.isEmpty()) {
                parts.put(name, doc.substring(begun, more ? m.start() : doc.length()).trim());
            }
            if (more) {
                name = m.group(1) != null ? "Terms" : m.group(2) != null ? "promise " + m.group(2)
                    : m.group(3) != null ? "section " + m.group(3) : "";
                begun = m.end();
            }
        }
        return parts;
    }

    private static Map<String, List<String>> named(Path tests) throws IOException {
        Map<String, List<String>> named = new LinkedHashMap<>();
        try (DirectoryStream<Path> files = Files.newDirectoryStream(tests, "*Test.java")) {
            for (Path file : files) {
                Matcher m = NAMED.matcher(Files.readString(file));
                while (m.find()) {
                    named.computeIfAbsent(m.group(1), k -> new ArrayList<>()).add(m.group(2));
                }
            }
        }
        return named;
    }

    /** A sentence is asked for if a test's words are of it, were it in part. */
    private static void everySentence(String part, String text, List<String> named) {
        Matcher end = SENTENCE_END.matcher(text);
        int begun = 0;
        while (end.find()) {
            String sentence = text.substring(begun, end.end()).trim();
            boolean asked = sentence.equals(NO_TEST);
            for (String words : named) {
                int at = text.indexOf(words);
                asked |= at >= 0 && at < end.end() && at + words.length() > begun;
            }
            CHECK.is(part + " has a test of '" + sentence + "'", asked ? 1 : 0, 1);
            begun = end.end();
        }
    }
}
