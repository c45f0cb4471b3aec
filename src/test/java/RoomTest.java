import java.lang.reflect.Array;
import java.lang.reflect.Field;
import java.lang.reflect.Modifier;
import java.util.Collections;
import java.util.IdentityHashMap;
import java.util.Set;

/** All calls of a run live in one room: what an object holds is small, and no call makes it more. */
public final class RoomTest extends Checks {
    private static final int MOST_CALLS = 512;
    private static final int MOST_OBJECTS = 200;
    private static final int MOST_ELEMENTS = 2000;

    private static int objects = 0;
    private static int elements = 0;

    public static void main(String[] args) throws IllegalAccessException {
        EliminateLoci loci = new EliminateLoci();
        count(loci);
        int objectsBefore = objects;
        int elementsBefore = elements;
        callAll(loci);
        count(loci);
        test("an object is small", () -> {
            due("some hundred objects and arrays", objectsBefore < MOST_OBJECTS ? 1 : 0, 1);
            due("less than two thousand fields and elements", elementsBefore < MOST_ELEMENTS ? 1 : 0, 1);
        });
        test("no call makes it more", () -> {
            due("objects and arrays", objects, objectsBefore);
            due("fields and elements", elements, elementsBefore);
        });
        end();
    }

    /** Rows of all degrees, each asked for all there is. */
    private static void callAll(EliminateLoci loci) {
        for (int calls = 0; calls + 9 <= MOST_CALLS; calls += 9) {
            int n = calls / 9;
            loci.term(n % 3, n % 5, 7 - n % 15);
            loci.freed(0, 0);
            loci.value(9, -8, 2);
            loci.trace(0);
            loci.trace(1);
            loci.side(1, 20, -20, 9);
            loci.at(1, 2, 3, 4, 5);
            loci.follows(1, 2);
            loci.touches(1, 2);
        }
    }

    private static void count(Object root) throws IllegalAccessException {
        objects = 0;
        elements = 0;
        countFrom(root, Collections.newSetFromMap(new IdentityHashMap<>()));
    }

    private static void countFrom(Object thing, Set<Object> seen) throws IllegalAccessException {
        if (thing == null || !seen.add(thing)) {
            return;
        }
        objects++;
        if (thing.getClass().isArray()) {
            boolean holdsObjects = !thing.getClass().getComponentType().isPrimitive();
            elements += Array.getLength(thing);
            for (int i = 0; holdsObjects && i < Array.getLength(thing); i++) {
                countFrom(Array.get(thing, i), seen);
            }
            return;
        }
        for (Field field : thing.getClass().getDeclaredFields()) {
            if (!Modifier.isStatic(field.getModifiers())) {
                elements++;
                field.setAccessible(true);
                Object held = field.get(thing);
                countFrom(field.getType().isPrimitive() ? null : held, seen);
            }
        }
    }
}
