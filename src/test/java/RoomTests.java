import java.lang.reflect.Array;
import java.lang.reflect.Field;
import java.lang.reflect.Modifier;
import java.util.ArrayList;
import java.util.Arrays;
import java.util.IdentityHashMap;
import java.util.List;
import java.util.Map;

/** What a hall takes of the room in which all calls of a run live: the same when it is new and when it is full. */
public final class RoomTests {
    private static final int MOST_OBJECTS = 300;
    private static final int MOST_FIELDS = 5000;

    private static int objects;
    private static int fields;

    public static void main(String[] args) throws IllegalAccessException {
        Check check = new Check();
        check.part("room");
        HundiHall x = new HundiHall();
        count(x);
        int newObjects = objects;
        int newFields = fields;
        check.due("objects of a new hall (" + objects + ")", objects > 100 && objects <= MOST_OBJECTS, true);
        check.due("fields and elements of a new hall (" + fields + ")", fields > 1000 && fields <= MOST_FIELDS, true);
        use(x);
        count(x);
        check.due("objects of a full hall", objects, newObjects);
        check.due("fields and elements of a full hall", fields, newFields);
        check.end("RoomTests");
    }

    /** Some 490 calls that fill all there is to be filled. */
    private static void use(HundiHall x) {
        for (int i = 0; i < 12; i++) {
            x.broker(i % 8, 1000000, i);
        }
        for (int i = 1; i < 12; i++) {
            x.trust(i, i - 1, 1000000, true);
        }
        x.festival();
        for (int i = 0; i < 40; i++) {
            x.order(i % 5, 11, 1000, i % 20, i);
            x.courier(i % 12, (i + 1) % 12, 100, 1 + i);
        }
        for (int i = 0; i < 12; i++) {
            x.pass(1);
            x.way(0, 11, 10, i);
            x.inquiry();
            x.ring();
        }
        x.raid(3);
        x.breakWord(4);
        for (int i = 0; i < 40; i++) {
            x.fetch(i, i);
            x.orderOf(i, 0);
            x.wayOf(i, 11);
        }
        for (int i = 0; i < 218; i++) {
            x.pass(500);
        }
    }

    private static void count(Object root) throws IllegalAccessException {
        objects = 0;
        fields = 0;
        Map<Object, Boolean> seen = new IdentityHashMap<>();
        List<Object> open = new ArrayList<>();
        open.add(root);
        seen.put(root, true);
        while (!open.isEmpty()) {
            Object one = open.remove(open.size() - 1);
            objects++;
            for (Object part : partsOf(one)) {
                if (part != null && seen.put(part, true) == null) {
                    open.add(part);
                }
            }
        }
    }

    /** The objects that an object holds; counts its fields or elements. */
    private static List<Object> partsOf(Object one) throws IllegalAccessException {
        List<Object> parts = new ArrayList<>();
        if (one.getClass().isArray()) {
            fields += Array.getLength(one);
            if (one instanceof Object[] row) {
                parts.addAll(Arrays.asList(row));
            }
            return parts;
        }
        for (Field field : one.getClass().getDeclaredFields()) {
            if (!Modifier.isStatic(field.getModifiers())) {
                fields++;
                field.setAccessible(true);
                if (!field.getType().isPrimitive()) {
                    parts.add(field.get(one));
                }
            }
        }
        return parts;
    }
}
