import java.io.IOException;
import java.io.UncheckedIOException;
import java.nio.file.Files;
import java.nio.file.Path;

/** The document's words, part by part: blanks made one, quotation marks made single ones. */
final class Doc {
    static final int PROMISES = 49;
    static final int PARTS = 7;
    private static final String TEXT = read(Path.of("../shared/DOC.md"));

    private Doc() {
    }

    static String promise(int number) {
        String section = between("## Promise " + number + ":", "## ");
        return section.substring(section.indexOf("`: ") + 3).trim();
    }

    static String term(int part) {
        if (part == 0) {
            return between("## Terms", "========");
        }
        return between("======== " + part + " ", part == PARTS ? "Ahead of the calls" : "========");
    }

    /** The lines of the public face. */
    static String face() {
        return between("## The public face", "## Terms");
    }

    /** The words behind the terms: which calls stand under which heading. */
    static String headings() {
        return "Ahead of the calls " + between("Ahead of the calls", "## Promise 1:");
    }

    private static String between(String begin, String end) {
        int from = TEXT.indexOf(begin) + begin.length();
        int to = TEXT.indexOf(end, from);
        return TEXT.substring(from, to).trim();
    }

    private static String read(Path path) {
        try {
            String text = Files.readString(path).replace("```text", " ").replace("```", " ");
            return text.replace('"', '\'').replaceAll("\\s+", " ");
        } catch (IOException e) {
            throw new UncheckedIOException(e);
        }
    }
}
