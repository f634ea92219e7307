import java.io.IOException;
import java.nio.file.Files;
import java.nio.file.Path;
import java.util.List;
import java.util.regex.Matcher;
import java.util.regex.Pattern;

/** Some rules of the language that the class keeps to, as far as its text shows them. */
public final class LanguageTest {
    private static final Path SOURCE = Path.of("src/main/java/DomainHouse.java");
    private static final List<String> FORBIDDEN = List.of(
        "throw", "throws", "try", "catch", "finally", "synchronized", "assert", "protected", "volatile", "transient",
        "native", "double", "float", "package", "instanceof", "record", "enum", "interface", "abstract", "extends");
    private static final Pattern METHOD = Pattern.compile("(?m)^(    |        )(?! )[^=;\\n]*\\(([^)]*)\\) \\{$");

    public static void main(String[] args) throws IOException {
        Check check = new Check("LanguageTest");
        String source = Files.readString(SOURCE);
        String code = source.replaceAll("/\\*(?s:.*?)\\*/|//[^\\n]*", "").replaceAll("\"[^\"\\n]*\"", "TEXT");
        for (String word : FORBIDDEN) {
            check.due("uses of " + word, count(code, "\\b" + word + "\\b"), 0);
        }
        check.due("lambdas", count(code, "->"), 0);
        check.due("method references", count(code, "::"), 0);
        check.due("joined texts", count(code, "TEXT *\\+|\\+ *TEXT"), 0);
        check.due("imports", count(code, "(?m)^import "), 1);
        check.due("of arrays", count(code, "import java\\.util\\.Arrays;"), 1);
        check.due("twelve classes at most", count(code, "\\bclass \\w+") <= 12 ? 1 : 0, 1);
        check.due("classes inside that are not static", count(code, "(?m)^    private (?!static)[^(;]*class "), 0);
        check.due("static fields that are not final", count(code, "\\bstatic (?!final)[^(){}]*[=;]"), 0);
        methods(check, code);
        check.end();
    }

    private static int count(String code, String pattern) {
        return (int) Pattern.compile(pattern).matcher(code).results().count();
    }

    private static void methods(Check check, String code) {
        Matcher matcher = METHOD.matcher(code);
        int methods = 0;
        while (matcher.find()) {
            methods++;
            int end = code.indexOf("\n" + matcher.group(1) + "}", matcher.start());
            long lines = code.substring(matcher.start(), end).lines().count() + 1;
            long parameters = matcher.group(2).isEmpty() ? 0 : matcher.group(2).split(",").length;
            check.due(matcher.group() + " has " + lines + " lines", lines <= 60 ? 1 : 0, 1);
            check.due(matcher.group() + " takes " + parameters, parameters <= 7 ? 1 : 0, 1);
        }
        check.due("methods were found", methods > 100 ? 1 : 0, 1);
    }
}
