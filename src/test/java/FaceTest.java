import java.lang.reflect.Constructor;
import java.lang.reflect.Field;
import java.lang.reflect.Method;
import java.lang.reflect.Modifier;
import java.util.Arrays;
import java.util.Set;
import java.util.TreeSet;

/** The public face of the document, and rule 1 of LANGUAGE.md. */
public final class FaceTest {
    private static final String[] FACE = {
        "assemble()int throws ArithmeticException",
        "clear()void",
        "data(int)int",
        "half(int)short",
        "line(int,int,int,int)int throws IllegalArgumentException,IllegalStateException",
        "pools()int",
        "refused()int",
        "register(int)int throws IllegalArgumentException",
        "restart()void",
        "run(int)int throws IllegalArgumentException",
        "size()int",
    };

    public static void main(String[] args) {
        Class<?> face = PoolAssembler.class;
        Check.due("public final", Modifier.PUBLIC | Modifier.FINAL, face.getModifiers());
        Check.due("NONE", -1, PoolAssembler.NONE);
        for (Field field : face.getDeclaredFields()) {
            boolean open = !Modifier.isPrivate(field.getModifiers());
            Check.due("is field " + field.getName() + " open", field.getName().equals("NONE") ? 1 : 0, open ? 1 : 0);
        }
        Constructor<?>[] constructors = face.getDeclaredConstructors();
        Check.due("constructors", 1, constructors.length);
        Check.due("constructor", Modifier.PUBLIC, constructors[0].getModifiers());
        Check.due("numbers of the constructor", 0, constructors[0].getParameterCount());
        Set<String> open = new TreeSet<>();
        for (Method method : face.getDeclaredMethods()) {
            if (Modifier.isPublic(method.getModifiers())) {
                open.add(told(method));
            } else {
                Check.due(method + " is private", 1, Modifier.isPrivate(method.getModifiers()) ? 1 : 0);
            }
        }
        Check.due("the methods " + open, 1, open.equals(new TreeSet<>(Arrays.asList(FACE))) ? 1 : 0);
        for (Class<?> inside : face.getDeclaredClasses()) {
            Check.due(inside + " is static", 1, Modifier.isStatic(inside.getModifiers()) ? 1 : 0);
            Check.due(inside + " is public", 0, Modifier.isPublic(inside.getModifiers()) ? 1 : 0);
        }
        Check.end();
    }

    private static String told(Method method) {
        String text = method.getName() + "(" + names(method.getParameterTypes()) + ")" + method.getReturnType();
        Class<?>[] thrown = method.getExceptionTypes();
        return thrown.length == 0 ? text : text + " throws " + names(thrown);
    }

    private static String names(Class<?>[] types) {
        StringBuilder text = new StringBuilder();
        for (Class<?> type : types) {
            text.append(text.length() == 0 ? "" : ",").append(type.getSimpleName());
        }
        return text.toString();
    }
}
