import java.io.IOException;
import java.nio.file.Files;
import java.nio.file.Path;
import java.util.LinkedHashMap;
import java.util.List;
import java.util.Map;
import java.util.regex.Matcher;
import java.util.regex.Pattern;
import java.util.stream.Collectors;
import java.util.stream.Stream;

/** Every word of the document's "Terms" and promises stands in a sentence to which some test tells its cases. */
public final class SentencesTest {
    private static final Path DOCUMENT = Path.of("../shared/DOC.md"), TESTS = Path.of("src/test/java");

    private static String flat(String text) {
        return text.replaceAll("```\\w*", " ").replaceAll("\\s+", " ").trim();
    }

    private static Map<String, String> sections(String document) {
        Map<String, String> sections = new LinkedHashMap<>();
        Matcher ahead = Pattern.compile("(?s)## (What it is)\n(.*?)\n## ").matcher(document);
        while (ahead.find()) {
            sections.put(ahead.group(1), flat(ahead.group(2)));
        }
        Matcher terms = Pattern.compile("(?s)==== (\\d) (.*?)(?===== |The constants:)").matcher(document);
        while (terms.find()) {
            sections.put("Terms " + terms.group(1), flat(terms.group(2)));
        }
        Matcher promises = Pattern.compile("(?s)## Promise (\\d+): [^\n]*\n+`[^`]*`: (.*?)(?=\n## )").matcher(document);
        while (promises.find()) {
            sections.put("Promise " + promises.group(1), flat(promises.group(2)));
        }
        return sections;
    }

    private static String tests() throws IOException {
        try (Stream<Path> files = Files.list(TESTS)) {
            List<Path> all = files.filter(file -> file.toString().endsWith("Test.java")).sorted()
                .collect(Collectors.toList());
            StringBuilder text = new StringBuilder();
            for (Path file : all) {
                text.append(Files.readString(file));
            }
            // a long sentence stands in several texts that are joined
            return text.toString().replaceAll("\"\\s*\\+\\s*\"", "").replace("TERMS,", "\"Terms\",");
        }
    }

    /** The sections' words, with those struck out that stand in a test's sentence. */
    private static void strikeOut(Map<String, String> left, Map<String, String> sections, String tests) {
        Matcher found = Pattern.compile("Edge\\.of\\(\"([^\"]*)\",\\s*\"([^\"]*)\"\\)").matcher(tests);
        while (found.find()) {
            String words = found.group(2);
            boolean stands = false;
            for (String section : sections.keySet()) {
                boolean meant = found.group(1).equals("Terms") ? section.startsWith("Terms")
                    : section.equals(found.group(1));
                if (meant && sections.get(section).contains(words)) {
                    stands = true;
                    left.put(section, left.get(section).replace(words, " "));
                }
            }
            Check.holds("stands in " + found.group(1) + ": " + words, stands);
        }
    }

    public static void main(String[] args) throws IOException {
        if (!Files.isReadable(DOCUMENT)) {
            System.out.println("SentencesTest: there is no " + DOCUMENT + " to look at");
            return;
        }
        Map<String, String> sections = sections(Files.readString(DOCUMENT));
        Check.due("sections", sections.size(), 1 + 3 + 38);
        Map<String, String> left = new LinkedHashMap<>(sections);
        strikeOut(left, sections, tests());
        // what it is tells no answers, but for how many calls an object is used
        left.remove("What it is");
        left.forEach((section, words) ->
            Check.holds("no test tells in " + section + ": " + words, !words.matches("(?s).*\\w.*")));
        Check.end("SentencesTest");
    }
}
