import java.lang.reflect.Array;
import java.lang.reflect.Field;
import java.lang.reflect.Modifier;
import java.util.ArrayDeque;
import java.util.Arrays;
import java.util.Collections;
import java.util.Deque;
import java.util.IdentityHashMap;
import java.util.Set;

/** What an object takes of the one room that all calls of a run live in: little, and no more behind many calls. */
public final class RoomTest {
    private static final int MOST_OBJECTS = 40;
    private static final int MOST_ELEMENTS = 1000;

    public static void main(String[] args) throws IllegalAccessException {
        BitLoom loom = new BitLoom();
        String before = room(loom);
        use(loom);
        Check.due("objects and elements behind many calls", before, room(loom));
        String[] counts = before.split(" ");
        Check.due("few objects: " + counts[0], true, Integer.parseInt(counts[0]) <= MOST_OBJECTS);
        Check.due("few fields and elements: " + counts[1], true, Integer.parseInt(counts[1]) <= MOST_ELEMENTS);
        Check.end();
    }

    private static void use(BitLoom loom) {
        loom.field('a', 0, 10, true);
        for (int word = 0; word < 32; word++) {
            loom.insert();
        }
        String[] texts = {"set a=1", "list a", "max a", "count", "sum a +", "where a="};
        for (int n = 0; n < 119; n++) {
            loom.write(Driver.pack(texts[n % texts.length]));
            Check.outcome(loom::run);
            loom.wipe();
            loom.search(1, n, false);
        }
    }

    /** How many objects and arrays can be reached, and how many fields and elements they have. */
    private static String room(Object root) throws IllegalAccessException {
        Set<Object> seen = Collections.newSetFromMap(new IdentityHashMap<>());
        Deque<Object> open = new ArrayDeque<>();
        open.add(root);
        int elements = 0;
        while (!open.isEmpty()) {
            Object next = open.remove();
            if (!seen.add(next) || next instanceof Enum) {
                continue;
            }
            if (next.getClass().isArray()) {
                elements += Array.getLength(next);
                if (next instanceof Object[]) {
                    open.addAll(Arrays.asList((Object[]) next));
                }
                continue;
            }
            for (Field f : next.getClass().getDeclaredFields()) {
                if (!Modifier.isStatic(f.getModifiers())) {
                    elements++;
                    f.setAccessible(true);
                    if (!f.getType().isPrimitive() && f.get(next) != null) {
                        open.add(f.get(next));
                    }
                }
            }
        }
        return seen.size() + " " + elements;
    }
}
