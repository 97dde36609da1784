import java.lang.reflect.Array;
import java.lang.reflect.Field;
import java.lang.reflect.Modifier;
import java.util.Collections;
import java.util.IdentityHashMap;
import java.util.Set;

/** Rule 12 of LANGUAGE.md: what an object keeps is made with it, and no call adds to it. RulesTest holds the rest. */
public final class RoomTest {
    /** A run has a room of 600,000 objects with 7,300,000 fields and elements: enough even for 512 such objects. */
    private static final int MOST_OBJECTS = 600_000 / 512;
    private static final int MOST_ELEMENTS = 7_300_000 / 512;

    private final Set<Object> objects = Collections.newSetFromMap(new IdentityHashMap<>());
    private long elements = 0;

    private RoomTest(PoolAssembler x) throws IllegalAccessException {
        walk(x);
    }

    public static void main(String[] args) throws IllegalAccessException {
        PoolAssembler x = new PoolAssembler();
        RoomTest first = new RoomTest(x);
        Check.due("few objects: " + first.objects.size(), 1, first.objects.size() <= MOST_OBJECTS ? 1 : 0);
        Check.due("few elements: " + first.elements, 1, first.elements <= MOST_ELEMENTS ? 1 : 0);
        dueKept("160 CONSTANT lines", x, first, 10, 0);
        dueKept("160 SPACE lines", x, first, 13, 40);
        dueKept("160 BRANCH lines that are refused", x, first, 11, 15);
        Check.end();
    }

    private static void dueKept(String what, PoolAssembler x, RoomTest first, int kind, int a)
            throws IllegalAccessException {
        x.clear();
        for (int i = 0; i < 160; i++) {
            x.line(kind, a, i, 0);
        }
        Check.dueThrow(what + ": no room", IllegalStateException.class, () -> x.line(kind, a, 0, 0));
        if (kind == 11) {
            Check.refuses(what, x, 0);
        } else {
            x.assemble();
        }
        x.run(5000);
        RoomTest now = new RoomTest(x);
        Check.due(what + ": objects kept", first.objects.size(), now.objects.size());
        Check.due(what + ": elements kept", first.elements, now.elements);
        first.objects.forEach(one -> Check.due(what + ": the same ones", 1, now.objects.contains(one) ? 1 : 0));
    }

    private void walk(Object one) throws IllegalAccessException {
        if (one == null || !objects.add(one)) {
            return;
        }
        if (one.getClass().isArray()) {
            elements += Array.getLength(one);
            if (one instanceof Object[] row) {
                for (Object element : row) {
                    walk(element);
                }
            }
            return;
        }
        for (Field field : one.getClass().getDeclaredFields()) {
            if (!Modifier.isStatic(field.getModifiers())) {
                elements++;
                field.setAccessible(true);
                if (!field.getType().isPrimitive()) {
                    walk(field.get(one));
                }
            }
        }
    }
}
