import java.io.IOException;
import java.lang.reflect.Method;
import java.nio.file.Files;
import java.nio.file.Path;
import java.util.ArrayList;
import java.util.LinkedHashMap;
import java.util.List;
import java.util.Map;

/** Every sentence of the document's terms and promises has a test, and every Sentence stands in the document. */
public final class SentencesOfTheDocumentTest {
    private static final Path DOCUMENT = Path.of("..", "shared", "DOC.md");
    private static final Class<?>[] TESTS = {WallAndLampTermsTest.class, LightTermsTest.class, TextTermsTest.class,
        UndoAndExceptionTermsTest.class, Promises01To05Test.class, Promises06To10Test.class, Promises11To17Test.class,
        Promises18To22Test.class, Promises23To27Test.class};

    private SentencesOfTheDocumentTest() {
    }

    public static void main(String[] args) throws IOException {
        if (!Files.exists(DOCUMENT)) {
            System.out.println("SentencesOfTheDocumentTest: there is no " + DOCUMENT + " to compare with");
            return;
        }
        Map<String, List<String>> sentences = sentences(Files.readAllLines(DOCUMENT));
        Check.due("sections with sentences", sentences.size() >= 30 ? 1 : 0, 1);
        Map<String, List<String>> quotes = new LinkedHashMap<>();
        for (Class<?> tests : TESTS) {
            for (Method method : Sentences.of(tests)) {
                Sentence quote = method.getAnnotation(Sentence.class);
                quotes.computeIfAbsent(quote.in(), k -> new ArrayList<>()).add(quote.says());
                boolean stands = false;
                for (String sentence : sentences.getOrDefault(quote.in(), List.of())) {
                    stands |= sentence.contains(quote.says());
                }
                Check.due(method.getName() + ": '" + quote.says() + "' stands in " + quote.in(), stands ? 1 : 0, 1);
                checkName(method, quote);
            }
        }
        sentences.forEach((section, all) -> {
            if (section.startsWith("Promise") || section.startsWith("Terms")) {
                all.forEach(sentence -> checkQuoted(section, sentence, quotes.getOrDefault(section, List.of())));
            }
        });
        Check.end("SentencesOfTheDocumentTest");
    }

    private static void checkName(Method method, Sentence quote) {
        if (quote.in().startsWith("Promise ")) {
            int number = Integer.parseInt(quote.in().substring("Promise ".length()));
            String start = String.format("promise%02d_", number);
            Check.due(method.getName() + " begins with " + start, method.getName().startsWith(start) ? 1 : 0, 1);
        }
    }

    private static void checkQuoted(String section, String sentence, List<String> quotes) {
        boolean quoted = sentence.startsWith("Ahead of the calls");
        for (String quote : quotes) {
            quoted |= sentence.contains(quote);
        }
        Check.due("a test for " + section + ": " + sentence, quoted ? 1 : 0, 1);
    }

    /** The sentences of each section; the terms are cut by their own headings, as "Terms, DIMMING". */
    private static Map<String, List<String>> sentences(List<String> lines) {
        Map<String, List<String>> found = new LinkedHashMap<>();
        String section = "";
        for (String line : lines) {
            if (line.startsWith("## ")) {
                section = line.substring(3).replaceAll("(Promise \\d+):.*", "$1");
            } else if (section.startsWith("Terms") && line.matches("[A-Z ]+")) {
                section = "Terms, " + line;
            } else if (!line.isBlank() && !section.isEmpty()) {
                for (String sentence : line.split("(?<=\\.)\\s+")) {
                    found.computeIfAbsent(section, k -> new ArrayList<>()).add(sentence);
                }
            }
        }
        return found;
    }
}
