import java.io.IOException;
import java.nio.file.Files;
import java.nio.file.Path;
import java.util.Map;
import java.util.TreeMap;
import java.util.TreeSet;

/** What ../shared/DOC.md says, cut into pieces that tests can be held to. */
final class Document {
    private static final Path PATH = Path.of("../shared/DOC.md");

    private Document() {
    }

    static boolean isThere() {
        return Files.exists(PATH);
    }

    /** Runs tests that need the document; a copy of the project alone has none. */
    static void runIfThere(Class<?> tests) {
        if (isThere()) {
            Cases.run(tests);
        } else {
            System.out.println("there is no " + PATH + " to hold the tests to");
        }
    }

    /** The sections that a test can quote, by their numbers in Says, each on one line. */
    static Map<Integer, String> sections() throws IOException {
        Map<Integer, String> sections = new TreeMap<>();
        for (String section : Files.readString(PATH).split("(?m)^## ")) {
            String title = section.lines().findFirst().orElse("");
            String text = section.substring(title.length()).replaceAll("```(text)?", "")
                    .replaceAll("\\s+", " ").strip();
            if (title.equals("What it is")) {
                sections.put(Says.WHAT_IT_IS, text);
            } else if (title.equals("Terms")) {
                sections.put(Says.TERMS, text);
            } else if (title.startsWith("Promise ")) {
                sections.put(Integer.valueOf(title.replaceAll("\\D+", "")), text);
            }
        }
        return sections;
    }

    /** The lines of the public face, without the names of the parameters. */
    static TreeSet<String> face() throws IOException {
        TreeSet<String> face = new TreeSet<>();
        String text = Files.readString(PATH);
        int from = text.indexOf("```java");
        for (String line : text.substring(from, text.indexOf("```", from + 1)).split("\n")) {
            if (line.startsWith("    public ")) {
                face.add(line.strip().replaceAll(";$", "").replaceAll(" \\w+(?=[,)])", "")
                        .replace(", ", ","));
            }
        }
        return face;
    }
}
