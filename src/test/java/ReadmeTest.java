import java.io.ByteArrayOutputStream;
import java.io.IOException;
import java.io.PrintStream;
import java.lang.reflect.Method;
import java.lang.reflect.Modifier;
import java.net.URL;
import java.net.URLClassLoader;
import java.nio.charset.StandardCharsets;
import java.nio.file.Files;
import java.nio.file.Path;
import javax.tools.ToolProvider;

/** README.md says what is so: its example compiles and prints what stands there, its tables have every call, every test. */
public final class ReadmeTest {
    private static final Path WORK = Path.of("build/readme");

    public static void main(String[] args) throws IOException, ReflectiveOperationException {
        Check check = new Check("ReadmeTest");
        String readme = Files.readString(Path.of("README.md"));
        example(check, block(readme, "java"), block(readme, "text"));
        calls(check, readme);
        tests(check, readme);
        check.end();
    }

    private static String block(String readme, String language) {
        String begin = "\n```" + language + "\n";
        int from = readme.indexOf(begin) + begin.length();
        return readme.substring(from, readme.indexOf("```", from));
    }

    private static void example(Check check, String code, String told) throws IOException, ReflectiveOperationException {
        Files.createDirectories(WORK);
        Path file = WORK.resolve("Example.java");
        Files.writeString(file, code);
        int failed = ToolProvider.getSystemJavaCompiler().run(null, null, null, "-Xlint:all", "-Werror",
            "-d", WORK.toString(), "src/main/java/DomainHouse.java", file.toString());
        check.due("faults of the example", failed, 0);
        if (failed == 0) {
            String printed = output();
            check.due("the example prints\n" + printed + "and README tells\n" + told, printed.equals(told) ? 1 : 0, 1);
        }
    }

    private static String output() throws IOException, ReflectiveOperationException {
        PrintStream before = System.out;
        ByteArrayOutputStream bytes = new ByteArrayOutputStream();
        URL[] here = {WORK.toUri().toURL()};
        try (URLClassLoader loader = new URLClassLoader(here, null)) {
            System.setOut(new PrintStream(bytes, true, StandardCharsets.UTF_8));
            Class<?> example = loader.loadClass("Example");
            example.getMethod("main", String[].class).invoke(null, (Object) new String[0]);
        } finally {
            System.setOut(before);
        }
        return bytes.toString(StandardCharsets.UTF_8).replace("\r\n", "\n");
    }

    private static void calls(Check check, String readme) {
        for (Method method : DomainHouse.class.getDeclaredMethods()) {
            if (Modifier.isPublic(method.getModifiers())) {
                String parameters = "(\\w+(, \\w+){" + Math.max(0, method.getParameterCount() - 1) + "})";
                String call = "\\| `" + method.getName() + "\\(" + (method.getParameterCount() == 0 ? "" : parameters) + "\\)` \\|";
                check.due("README tells " + call, readme.split(call, -1).length - 1, 1);
            }
        }
    }

    private static void tests(Check check, String readme) throws IOException {
        try (var all = Files.list(Path.of("src/test/java"))) {
            for (Path file : all.sorted().toList()) {
                String name = file.getFileName().toString().replace(".java", "");
                if (name.endsWith("Test")) {
                    String told = name.startsWith("EdgesOf") ? "EdgesOf...Test" : name;
                    check.due("README tells " + told, readme.contains("`" + told + "`") ? 1 : 0, 1);
                }
            }
        }
    }
}
