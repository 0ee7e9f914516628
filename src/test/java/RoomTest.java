import java.lang.reflect.Array;
import java.lang.reflect.Field;
import java.lang.reflect.Modifier;
import java.util.Collections;
import java.util.IdentityHashMap;
import java.util.Set;

/** What an object takes of the room that all calls of a run live in; that calls make nothing is LanguageTest's to see. */
public final class RoomTest {
    private static final int MOST_THINGS = 200, MOST_CELLS = 6000;
    private final Set<Object> seen = Collections.newSetFromMap(new IdentityHashMap<>());
    private int cells = 0;

    public static void main(String[] args) throws Exception {
        Due due = new Due();
        RoomTest room = new RoomTest();
        room.count(new DeepShip());
        due.due(room.seen.size() + " objects and arrays are few (1)", room.seen.size() <= MOST_THINGS ? 1 : 0, 1);
        due.due(room.cells + " fields and elements are few (1)", room.cells <= MOST_CELLS ? 1 : 0, 1);
        due.finish();
    }

    private void count(Object thing) throws IllegalAccessException {
        if (thing == null || !seen.add(thing)) {
            return;
        }
        if (thing.getClass().isArray()) {
            cells += Array.getLength(thing);
            for (int i = 0; !thing.getClass().getComponentType().isPrimitive() && i < Array.getLength(thing); i++) {
                count(Array.get(thing, i));
            }
            return;
        }
        for (Field field : thing.getClass().getDeclaredFields()) {
            if (!Modifier.isStatic(field.getModifiers())) {
                cells++;
                field.setAccessible(true);
                if (!field.getType().isPrimitive()) {
                    count(field.get(thing));
                }
            }
        }
    }
}
