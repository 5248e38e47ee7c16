import java.io.IOException;
import java.lang.reflect.Method;
import java.nio.file.DirectoryStream;
import java.nio.file.Files;
import java.nio.file.Path;
import java.util.ArrayList;
import java.util.List;
import java.util.Map;
import java.util.TreeMap;

/** Every sentence of "What it is", of the terms and of the promises has a test that quotes it. */
final class SentencesTest {
    private static final Path TESTS = Path.of("src/test/java");
    private static final int PROMISES = 21;
    /** A point or semicolon; not those of a range such as 0 .. 5. */
    private static final String SENTENCE_END = "(?<![. ])\\.(?=\\s|$)|;";

    public static void main(String[] args) {
        Document.runIfThere(SentencesTest.class);
    }

    static void everySentenceIsQuoted(Check check) throws IOException, ClassNotFoundException {
        Map<Integer, List<String>> quotes = quotes();
        for (Map.Entry<Integer, String> section : Document.sections().entrySet()) {
            List<String> quoted = quotes.getOrDefault(section.getKey(), List.of());
            for (String sentence : section.getValue().split(SENTENCE_END)) {
                boolean tested = quoted.stream().anyMatch(sentence::contains)
                        || quoted.stream().anyMatch(q -> q.contains(sentence.strip()));
                check.yes("section " + section.getKey() + ", quoted: " + sentence, tested);
            }
        }
    }

    static void everyQuoteIsInTheDocument(Check check) throws IOException, ClassNotFoundException {
        Map<Integer, String> sections = Document.sections();
        for (Map.Entry<Integer, List<String>> section : quotes().entrySet()) {
            String text = sections.getOrDefault(section.getKey(), "");
            for (String quote : section.getValue()) {
                check.yes("section " + section.getKey() + " says: " + quote, text.contains(quote));
            }
        }
    }

    static void everySectionIsThere(Check check) throws IOException {
        Map<Integer, String> sections = Document.sections();
        check.yes("What it is", sections.containsKey(Says.WHAT_IT_IS));
        check.yes("Terms", sections.containsKey(Says.TERMS));
        for (int promise = 1; promise <= PROMISES; promise++) {
            check.yes("Promise " + promise, sections.containsKey(promise));
        }
        check.same("sections", sections.size(), 2 + PROMISES);
    }

    private static Map<Integer, List<String>> quotes() throws IOException, ClassNotFoundException {
        Map<Integer, List<String>> quotes = new TreeMap<>();
        try (DirectoryStream<Path> files = Files.newDirectoryStream(TESTS, "*Test.java")) {
            for (Path file : files) {
                String name = file.getFileName().toString().replace(".java", "");
                for (Method test : Cases.of(Class.forName(name))) {
                    Says says = test.getAnnotation(Says.class);
                    if (says != null) {
                        quotes.computeIfAbsent(says.promise(), k -> new ArrayList<>())
                                .add(says.value());
                    }
                }
            }
        }
        return quotes;
    }
}
