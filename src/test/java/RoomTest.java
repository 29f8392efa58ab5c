import java.lang.reflect.Array;
import java.lang.reflect.Field;
import java.lang.reflect.Modifier;
import java.util.Collections;
import java.util.IdentityHashMap;
import java.util.Set;

/**
 * The room that an object takes: it is small, and it is the same before and after its calls (that
 * calls make nothing by the way is looked at by LanguageTest).
 */
final class RoomTest {
    private static final int OBJECTS = 25;
    private static final int FIELDS_AND_ELEMENTS = 4000;

    private final Set<Object> seen = Collections.newSetFromMap(new IdentityHashMap<>());
    private int slots = 0;

    public static void main(String[] args) throws IllegalAccessException {
        ClaimSources x = new ClaimSources();
        RoomTest before = new RoomTest();
        before.look(x);
        use(x);
        RoomTest after = new RoomTest();
        after.look(x);
        Due.due("objects and arrays are few", before.seen.size() <= OBJECTS, true);
        Due.due("fields and elements are few", before.slots <= FIELDS_AND_ELEMENTS, true);
        Due.due("the walk sees the arrays", before.slots >= 29 * 60 + 5 * 300, true);
        Due.due("objects and arrays after use", after.seen.size(), before.seen.size());
        Due.due("fields and elements after use", after.slots, before.slots);
        Due.end();
    }

    private static void use(ClaimSources x) {
        for (int i = 0; i < 24; i++) {
            x.unit(35);
            x.source(i, i);
            x.rests(x.claim(), i, true);
            x.opinion(i, i, i, i, 0);
        }
        for (int i = 1; i < 24; i++) {
            x.restsOn(i, i - 1);
            x.restsOn(0, i);
            x.agreed(i, i);
            x.dissent(i, i, 0);
            x.opened(i, i, 0);
        }
        x.unit(64);
        x.form(0);
        x.cite(23, 0, 0);
        x.quote(23, 0);
    }

    private void look(Object one) throws IllegalAccessException {
        if (one == null || !seen.add(one)) {
            return;
        }
        if (one.getClass().isArray()) {
            slots += Array.getLength(one);
            return;
        }
        for (Field field : one.getClass().getDeclaredFields()) {
            if (!Modifier.isStatic(field.getModifiers())) {
                slots++;
                field.setAccessible(true);
                if (!field.getType().isPrimitive()) {
                    look(field.get(one));
                }
            }
        }
    }
}
