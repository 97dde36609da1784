import java.io.ByteArrayOutputStream;
import java.io.File;
import java.io.IOException;
import java.io.PrintStream;
import java.lang.reflect.Method;
import java.lang.reflect.Modifier;
import java.net.URL;
import java.net.URLClassLoader;
import java.nio.charset.StandardCharsets;
import java.nio.file.Files;
import java.nio.file.Path;
import javax.tools.ToolProvider;

/** README.md: its example is compiled and run, and prints what README.md says; every call and every test is told. */
public final class ReadmeTest {
    public static void main(String[] args) throws IOException, ReflectiveOperationException {
        String text = Files.readString(Path.of("README.md"));
        Check.dueSeen("the example", block(text, "text"), printed(block(text, "java")));
        for (Method method : PoolAssembler.class.getDeclaredMethods()) {
            if (Modifier.isPublic(method.getModifiers())) {
                dueTold(text, "`" + method.getName() + "(");
            }
        }
        for (String name : new File("src/test/java").list()) {
            if (name.endsWith("Test.java")) {
                dueTold(text, "| `" + name.replace(".java", "") + "` |");
            }
        }
        dueTold(text, "    .ci/run\n");
        Check.end();
    }

    private static void dueTold(String text, String words) {
        Check.due("README.md tells " + words.trim(), 1, text.contains(words) ? 1 : 0);
    }

    private static String block(String text, String language) {
        String head = "```" + language + "\n";
        int start = text.indexOf(head) + head.length();
        return text.substring(start, text.indexOf("```", start));
    }

    private static String printed(String example) throws IOException, ReflectiveOperationException {
        Path dir = Files.createTempDirectory("readme");
        Path file = dir.resolve("Example.java");
        Files.writeString(file, "public class Example { public static void main(String[] args) {\n" + example + "}}\n");
        String[] options = {"-proc:none", "-cp", System.getProperty("java.class.path"), file.toString()};
        Check.due("the example compiles", 0, ToolProvider.getSystemJavaCompiler().run(null, null, null, options));
        PrintStream before = System.out;
        ByteArrayOutputStream printed = new ByteArrayOutputStream();
        try (URLClassLoader loader = new URLClassLoader(new URL[] {dir.toUri().toURL()})) {
            System.setOut(new PrintStream(printed, true, StandardCharsets.UTF_8));
            loader.loadClass("Example").getMethod("main", String[].class).invoke(null, (Object) new String[0]);
        } finally {
            System.setOut(before);
            for (File made : dir.toFile().listFiles()) {
                made.delete();
            }
            dir.toFile().delete();
        }
        return printed.toString(StandardCharsets.UTF_8).replace(System.lineSeparator(), "\n");
    }
}
