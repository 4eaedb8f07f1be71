import java.io.IOException;
import java.nio.file.Files;
import java.nio.file.Path;
import java.util.ArrayList;
import java.util.LinkedHashMap;
import java.util.LinkedHashSet;
import java.util.List;
import java.util.Map;
import java.util.Set;
import java.util.regex.Matcher;
import java.util.regex.Pattern;

/**
 * The document's sentences, part by part, and which of them the tests have quoted: so that no test
 * rests on words that the document does not have, and no sentence is left without a test.
 */
final class Document {
    private static final Path FILE = Path.of("..", "shared", "DOC.md");
    private static final Pattern HEADING = Pattern.compile("## (Promise \\d+|.*?)(?::.*)?");
    private static final Pattern TERM = Pattern.compile("[A-Z]+(?: [A-Z]+)*");
    private static final String CONSTANTS = "The constants:";
    private static final String BETWEEN_SENTENCES = "(?<=\\.\\)?) +(?=[(A-Z])";
    /** What stands there is told anew elsewhere, or is no promise. */
    private static final List<String> LEFT_OUT = List.of("MasterPins", "What it is", "Not promised");

    private static final Map<String, Set<String>> QUOTES = new LinkedHashMap<>();

    private Document() {
    }

    static void quote(String part, String words) {
        QUOTES.computeIfAbsent(part, name -> new LinkedHashSet<>()).add(words);
    }

    static void checkQuotes() throws IOException {
        Check.endSentence();
        if (!Files.isReadable(FILE)) {
            System.out.println("no " + FILE + ": quotes are not compared with it");
            return;
        }
        Map<String, List<String>> parts = parts(Files.readAllLines(FILE));
        for (Map.Entry<String, Set<String>> quoted : QUOTES.entrySet()) {
            String whole = String.join("\n", parts.getOrDefault(quoted.getKey(), List.of()));
            for (String words : quoted.getValue()) {
                Check.isTrue("quote of " + quoted.getKey() + ": " + words, whole.contains(words));
            }
        }
        for (Map.Entry<String, List<String>> part : parts.entrySet()) {
            if (!LEFT_OUT.contains(part.getKey())) {
                checkSentences(part.getKey(), part.getValue());
            }
        }
    }

    private static void checkSentences(String part, List<String> lines) {
        for (String line : lines) {
            for (String sentence : line.split(BETWEEN_SENTENCES)) {
                Check.isTrue("sentence of " + part + " has a test: " + sentence, isQuoted(part, sentence));
            }
        }
    }

    private static boolean isQuoted(String part, String sentence) {
        for (String words : QUOTES.getOrDefault(part, Set.of())) {
            if (sentence.contains(words) || words.contains(sentence)) {
                return true;
            }
        }
        return false;
    }

    private static Map<String, List<String>> parts(List<String> lines) {
        Map<String, List<String>> parts = new LinkedHashMap<>();
        String part = "MasterPins";
        for (String line : lines) {
            Matcher heading = HEADING.matcher(line);
            boolean isHeading = heading.matches() || TERM.matcher(line).matches();
            if (isHeading) {
                part = heading.matches() ? heading.group(1) : line;
            } else if (line.startsWith(CONSTANTS)) {
                part = CONSTANTS;
            }
            if (!isHeading && isSentence(line)) {
                parts.computeIfAbsent(part, name -> new ArrayList<>()).add(line.trim());
            }
        }
        return parts;
    }

    private static boolean isSentence(String line) {
        return !line.isBlank() && !line.startsWith("```") && !line.equals("}") && !line.startsWith("# ");
    }
}
