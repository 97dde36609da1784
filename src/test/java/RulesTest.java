import java.io.IOException;
import java.lang.reflect.Constructor;
import java.lang.reflect.Field;
import java.lang.reflect.Method;
import java.lang.reflect.Modifier;
import java.nio.file.Files;
import java.nio.file.Path;
import java.util.ArrayList;
import java.util.HashSet;
import java.util.List;
import java.util.Set;
import java.util.regex.Matcher;
import java.util.regex.Pattern;

/** The rules of LANGUAGE.md, as far as the text of the class and its members show them; for the face see FaceTest. */
public final class RulesTest {
    private static final Class<?> FACE = PoolAssembler.class;

    public static void main(String[] args) throws IOException {
        String text = withoutCommentsAndTexts(Files.readString(Path.of("src/main/java/PoolAssembler.java")));
        theFaceAlone();
        classesInside(text);
        types(text);
        library(text);
        staticState(text);
        exceptions(text);
        sizes(text);
        Check.end();
    }

    private static String withoutCommentsAndTexts(String text) {
        return text.replaceAll("(?s)/\\*.*?\\*/", " ").replaceAll("//[^\n]*", " ")
            .replaceAll("\"(\\\\.|[^\"\\\\])*\"", "\"\"");
    }

    private static void none(String rule, String text, String pattern) {
        Matcher matcher = Pattern.compile(pattern).matcher(text);
        Check.due(rule + (matcher.find() ? ": " + matcher.group() : ""), 0, matcher.reset().find() ? 1 : 0);
    }

    private static List<Class<?>> all() {
        List<Class<?>> all = new ArrayList<>(List.of(FACE));
        for (int i = 0; i < all.size(); i++) {
            all.addAll(List.of(all.get(i).getDeclaredClasses()));
        }
        return all;
    }

    private static void theFaceAlone() {
        Set<String> open = new HashSet<>();
        for (Method method : FACE.getDeclaredMethods()) {
            if (Modifier.isPublic(method.getModifiers())) {
                open.add(method.getName());
            }
        }
        for (Class<?> one : all()) {
            for (Method method : one.getDeclaredMethods()) {
                if (Modifier.isPrivate(method.getModifiers())) {
                    Check.due("rule 1: " + method + " bears a public name", 0, open.contains(method.getName()) ? 1 : 0);
                }
            }
        }
    }

    private static void classesInside(String text) {
        none("rule 2: a lambda or a switch with arrows", text, "->");
        none("rule 2: a method reference", text, "::");
    }

    private static void types(String text) {
        none("rule 3: a number with a point", text, "\\b(double|float|Double|Float|BigInteger|BigDecimal)\\b");
        none("rule 3: three dimensions", text, "\\[[^\\]]*\\]\\s*\\[[^\\]]*\\]\\s*\\[");
    }

    private static void library(String text) {
        none("rule 4: an import", text, "import\\s+(?!java\\.util\\.(Arrays|ArrayList|List|Iterator);)[^;]*;");
        none("rule 4: a package in the code", text, "(?<!import )\\bjava\\.[a-z]");
        none("rule 4: an Exact function", text, "\\w+Exact\\b");
        none("rule 4: Arrays", text, "\\bArrays\\.(?!fill\\b|copyOf\\b|copyOfRange\\b)\\w+");
        none("rules 4 and 13: System, Thread and their like", text,
            "\\bSystem\\.(?!arraycopy\\b)\\w+|\\b(Thread|Runtime|Process|Class|Object)\\b");
        none("rule 13: randomness", text, "\\bRandom\\b|\\brandom\\b");
    }

    private static void staticState(String text) {
        none("rule 5: a static block", text, "\\bstatic\\s*\\{");
        for (Class<?> one : all()) {
            for (Field field : one.getDeclaredFields()) {
                if (Modifier.isStatic(field.getModifiers())) {
                    Check.due("rule 5: " + field + " is final", 1, Modifier.isFinal(field.getModifiers()) ? 1 : 0);
                    Check.due("rule 5: " + field + " is a plain constant", 1, field.getType().isPrimitive() ? 1 : 0);
                }
            }
        }
    }

    private static void exceptions(String text) {
        none("rule 6: another throw", text,
            "\\bthrow\\b(?! new (IllegalArgumentException|IllegalStateException|ArithmeticException)\\(\"\"\\);)");
        none("rule 6: what is not in the language", text, "\\b(finally|synchronized|assert|instanceof|catch|try)\\b");
        none("rule 6: equals and its like", text, "\\b(equals|hashCode|toString)\\b");
    }

    private static void sizes(String text) {
        Check.due("rule 11: classes", 1, all().size() <= 12 ? 1 : 0);
        for (Class<?> one : all()) {
            int fields = 0;
            for (Field field : one.getDeclaredFields()) {
                fields += Modifier.isStatic(field.getModifiers()) ? 0 : 1;
            }
            Check.due("rule 11: fields of " + one, 1, fields <= 20 ? 1 : 0);
            for (Method method : one.getDeclaredMethods()) {
                Check.due("rule 11: numbers of " + method, 1, method.getParameterCount() <= 7 ? 1 : 0);
            }
            for (Constructor<?> constructor : one.getDeclaredConstructors()) {
                Check.due("rule 11: numbers of " + constructor, 1, constructor.getParameterCount() <= 7 ? 1 : 0);
            }
        }
        // A method's braces stand as deep as its own head: 4 spaces in the face, 8 in a class inside.
        Matcher method = Pattern.compile("(?m)^( {4}| {8})(public|private)[^\n;=]*\\([^\n]*\\{\n(?s:.*?)^\\1\\}")
            .matcher(text);
        int methods = 0;
        while (method.find()) {
            methods++;
            long lines = method.group().lines().count();
            String head = method.group().lines().findFirst().get().trim();
            Check.due("rule 11: " + head + " is short", 1, lines <= 60 ? 1 : 0);
        }
        Check.due("rule 11: methods found", 1, methods > 40 ? 1 : 0);
    }
}
