import java.lang.reflect.Array;
import java.lang.reflect.Field;
import java.lang.reflect.Modifier;
import java.util.ArrayDeque;
import java.util.Collections;
import java.util.Deque;
import java.util.IdentityHashMap;
import java.util.Set;

/** The room of a store: what the constructor makes is small, and no call makes anything that stays. */
public final class RoomTest {
    private static final Check CHECK = new Check("room");

    public static void main(String[] args) throws IllegalAccessException {
        ShelfStages store = new ShelfStages();
        Set<Object> before = reach(store);
        long elements = 0;
        for (Object object : before) {
            elements += size(object);
        }
        // 512 stores in one run would still fit into its room.
        CHECK.due(before.size() + " objects are more than 1100", before.size() > 1100 ? 1 : 0, 0);
        CHECK.due(elements + " elements are more than 14000", elements > 14000 ? 1 : 0, 0);
        use(store);
        Set<Object> after = reach(store);
        after.removeAll(before);
        CHECK.due("objects that came later", after.size(), 0);
        Check.end();
    }

    private static void use(ShelfStages store) {
        for (int round = 0; round < 30; round++) {
            store.addGood(100, 10);
            store.addGood(110, 10);
            store.addSubstitute(0, 1, 0);
            store.bring(0, 20, 10);
            store.clearText();
            store.type('1');
            store.type('x');
            store.type('9');
            store.readDelivery();
            store.order(0, 25, 0, true);
            store.wouldGet(0, 25, 0, true, 3);
            store.wouldExpire(0, 60);
            store.keep();
            store.pass(1);
            store.restore();
            store.undo();
        }
    }

    private static Set<Object> reach(Object first) throws IllegalAccessException {
        Set<Object> seen = Collections.newSetFromMap(new IdentityHashMap<>());
        Deque<Object> open = new ArrayDeque<>();
        open.add(first);
        while (!open.isEmpty()) {
            Object object = open.remove();
            if (seen.add(object)) {
                addParts(object, open);
            }
        }
        return seen;
    }

    private static void addParts(Object object, Deque<Object> open) throws IllegalAccessException {
        Class<?> type = object.getClass();
        if (type.isArray()) {
            for (int at = 0; !type.getComponentType().isPrimitive() && at < Array.getLength(object); at++) {
                open.add(Array.get(object, at));
            }
            return;
        }
        for (Field field : type.getDeclaredFields()) {
            if (!Modifier.isStatic(field.getModifiers()) && !field.getType().isPrimitive()) {
                field.setAccessible(true);
                open.add(field.get(object));
            }
        }
    }

    private static long size(Object object) {
        Class<?> type = object.getClass();
        return type.isArray() ? Array.getLength(object) : type.getDeclaredFields().length;
    }
}
