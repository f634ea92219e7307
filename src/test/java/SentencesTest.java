import java.io.IOException;
import java.nio.file.Files;
import java.nio.file.Path;
import java.util.ArrayList;
import java.util.List;
import java.util.Map;
import java.util.TreeMap;
import java.util.regex.Matcher;
import java.util.regex.Pattern;
import java.util.stream.Stream;

/** Every word of the promises and of the terms is quoted by a test of their edges: no sentence was left out. */
public final class SentencesTest {
    private static final Path TESTS = Path.of("src/test/java");
    private static final Pattern QUOTE = Pattern.compile("check\\.(term|promise)\\((\\d+), ((?:\"[^\"]*\"\\s*\\+?\\s*)+)\\)");
    private static final Pattern PIECE = Pattern.compile("\"([^\"]*)\"");

    public static void main(String[] args) throws IOException {
        Check check = new Check("SentencesTest");
        Map<String, List<String>> quotes = quotes();
        for (int part = 0; part <= Doc.PARTS; part++) {
            covered(check, "term " + part, Doc.term(part), quotes);
        }
        for (int number = 1; number <= Doc.PROMISES; number++) {
            covered(check, "promise " + number, Doc.promise(number), quotes);
        }
        check.end();
    }

    private static Map<String, List<String>> quotes() throws IOException {
        Map<String, List<String>> quotes = new TreeMap<>();
        List<Path> files;
        try (Stream<Path> all = Files.list(TESTS)) {
            files = all.filter(path -> path.getFileName().toString().matches("(Edges|Refused)\\w+Test\\.java")).sorted().toList();
        }
        for (Path file : files) {
            Matcher matcher = QUOTE.matcher(Files.readString(file));
            while (matcher.find()) {
                StringBuilder words = new StringBuilder();
                Matcher piece = PIECE.matcher(matcher.group(3));
                while (piece.find()) {
                    words.append(piece.group(1));
                }
                quotes.computeIfAbsent(matcher.group(1) + " " + matcher.group(2), key -> new ArrayList<>()).add(words.toString());
            }
        }
        return quotes;
    }

    /** Words that overlap are each quoted: so the letters are marked, not taken out. */
    private static void covered(Check check, String where, String text, Map<String, List<String>> quotes) {
        char[] left = text.toCharArray();
        for (String words : quotes.getOrDefault(where, List.of())) {
            int from = text.indexOf(words);
            check.due(where + " says: " + words, from >= 0 ? 1 : 0, 1);
            while (from >= 0) {
                java.util.Arrays.fill(left, from, from + words.length(), ' ');
                from = text.indexOf(words, from + 1);
            }
        }
        String rest = new String(left).replaceAll("[\\s.,;:()]+", " ").trim();
        check.due(where + " has words that no test quotes: " + rest, rest.length(), 0);
    }
}
