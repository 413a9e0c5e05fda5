import java.lang.reflect.Method;
import java.nio.file.Files;
import java.nio.file.Path;
import java.util.ArrayList;
import java.util.List;
import java.util.regex.Matcher;
import java.util.regex.Pattern;

/**
 * Holds the tests against the document: each sentence that a test says it holds stands in the section
 * of its promise, and each sentence of the document is held by a test.
 */
public final class QuoteTests {
    private static final List<Class<?>> TESTS = List.of(BuildingSentenceTests.class, WaySentenceTests.class,
        InputSentenceTests.class, WorkSentenceTests.class, ValueSentenceTests.class, StateSentenceTests.class);
    private static final Path DOCUMENT = Path.of("../shared/DOC.md");
    private static final int PROMISES = 26;
    // A headword such as "Graph." is no sentence.
    private static final int FEWEST_WORDS = 4;

    private static final Due DUE = new Due("QuoteTests");

    public static void main(String[] args) throws Exception {
        if (!Files.exists(DOCUMENT)) {
            System.out.println("QuoteTests: " + DOCUMENT + " is not here, so there is nothing to hold the tests against");
            return;
        }
        String document = Files.readString(DOCUMENT);
        List<List<String>> quotes = quotes();
        for (int promise = 0; promise <= PROMISES; promise++) {
            String section = section(document, promise);
            for (String quote : quotes.get(promise)) {
                DUE.holds("promise " + promise + " does not say: " + quote, plain(section).contains(plain(quote)));
            }
            for (String sentence : sentences(section)) {
                DUE.holds("promise " + promise + ", no test holds: " + sentence, isHeld(sentence, quotes.get(promise)));
            }
        }
        DUE.end();
    }

    private static List<List<String>> quotes() {
        List<List<String>> quotes = new ArrayList<>();
        for (int promise = 0; promise <= PROMISES; promise++) {
            quotes.add(new ArrayList<>());
        }
        for (Class<?> tests : TESTS) {
            for (Method test : Sentences.of(tests)) {
                Holds holds = test.getAnnotation(Holds.class);
                quotes.get(holds.promise()).addAll(List.of(holds.sentence()));
            }
        }
        return quotes;
    }

    // The description ends where the examples begin: PromiseTests has those.
    private static String section(String document, int promise) {
        String start = promise == 0 ? "An object is used" : "## Promise " + promise + ": ";
        String end = promise == 0 ? "\nExamples:" : "\n## ";
        Matcher matcher = Pattern.compile("(?s)" + start + ".*?" + end).matcher(document);
        DUE.holds("the document has no promise " + promise, matcher.find());
        return matcher.group();
    }

    private static List<String> sentences(String section) {
        List<String> sentences = new ArrayList<>();
        boolean code = false;
        for (String line : section.split("\n")) {
            code ^= line.startsWith("```");
            if (!code && !line.matches("(#|`|----|Examples).*")) {
                for (String sentence : line.replaceFirst("^- ", "").split("(?<=[.;]) ")) {
                    if (sentence.split(" ").length >= FEWEST_WORDS) {
                        sentences.add(sentence);
                    }
                }
            }
        }
        return sentences;
    }

    // A sentence about several cases may be held by tests for its parts: then no word may be left over but the joining ones.
    private static boolean isHeld(String sentence, List<String> quotes) {
        String words = plain(sentence);
        String rest = words;
        for (String quote : quotes) {
            if (plain(quote).contains(words)) {
                return true;
            }
            rest = uncovered(words, rest, plain(quote));
        }
        return rest.replaceAll("\\b(or|and|if)\\b|\\W", "").isEmpty();
    }

    // Quotes may overlap, so they are looked for in the whole sentence, and blanked in what is left of it.
    private static String uncovered(String words, String rest, String quote) {
        int at = words.indexOf(quote);
        if (at < 0) {
            return rest;
        }
        return rest.substring(0, at) + " ".repeat(quote.length()) + rest.substring(at + quote.length());
    }

    private static String plain(String text) {
        return text.replaceAll("\\s+", " ").replaceAll("[.;,]$", "");
    }
}
