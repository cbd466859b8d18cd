import java.lang.management.ManagementFactory;
import java.lang.reflect.Array;
import java.lang.reflect.Field;
import java.lang.reflect.Modifier;
import java.util.ArrayDeque;
import java.util.Collections;
import java.util.Deque;
import java.util.IdentityHashMap;
import java.util.Set;

/** All calls of one run live in one room: a map takes little of it, and a call makes nothing. */
public final class RoomTest {
    private static final int ROOM_OBJECTS = 600_000;
    private static final int ROOM_ELEMENTS = 7_300_000;
    private static final int MAPS = 1000;
    private static final int BUSY_MAPS = 200;
    private static final char[] TOLD = "p9 9 7;p9 8 70;k6;c30;".toCharArray();

    // Far less than one object of 16 bytes for each time that a single call is made, far more than the measuring takes.
    private static final long GARBAGE = BUSY_MAPS * 8L;
    private static int wrong = 0;

    public static void main(String[] args) throws Exception {
        ShadeClasses x = new ShadeClasses();
        Set<Object> made = reached(x);
        int elements = elements(made);
        holds(made.size() * MAPS <= ROOM_OBJECTS, MAPS + " maps have " + made.size() + " objects each");
        holds(elements * MAPS <= ROOM_ELEMENTS, MAPS + " maps have " + elements + " elements each");
        busy(x);
        Set<Object> then = reached(x);
        holds(then.size() == made.size() && made.containsAll(then), "the objects are the same ones behind many calls");
        holds(elements(then) == elements, "the elements are as many behind many calls");
        holds(garbage() < GARBAGE, "no call makes an object");
        System.out.println(made.size() + " objects, " + elements + " elements, " + wrong + " wrong");
        if (wrong != 0) {
            System.exit(1);
        }
    }

    private static void holds(boolean so, String what) {
        if (!so) {
            wrong++;
            System.out.println("not so: " + what);
        }
    }

    private static Set<Object> reached(Object first) throws Exception {
        Set<Object> found = Collections.newSetFromMap(new IdentityHashMap<>());
        Deque<Object> open = new ArrayDeque<>();
        open.push(first);
        while (!open.isEmpty()) {
            Object o = open.pop();
            if (!found.add(o)) {
                continue;
            }
            if (o.getClass().isArray()) {
                openElements(o, open);
            } else {
                openFields(o, open);
            }
        }
        return found;
    }

    private static void openElements(Object array, Deque<Object> open) {
        for (int i = 0; i < Array.getLength(array) && !array.getClass().getComponentType().isPrimitive(); i++) {
            if (Array.get(array, i) != null) {
                open.push(Array.get(array, i));
            }
        }
    }

    private static void openFields(Object o, Deque<Object> open) throws Exception {
        for (Field f : o.getClass().getDeclaredFields()) {
            if (!Modifier.isStatic(f.getModifiers()) && !f.getType().isPrimitive()) {
                f.setAccessible(true);
                if (f.get(o) != null) {
                    open.push(f.get(o));
                }
            }
        }
    }

    private static int elements(Set<Object> objects) {
        int elements = 0;
        for (Object o : objects) {
            if (o.getClass().isArray()) {
                elements += Array.getLength(o);
                continue;
            }
            for (Field f : o.getClass().getDeclaredFields()) {
                elements += Modifier.isStatic(f.getModifiers()) ? 0 : 1;
            }
        }
        return elements;
    }

    /** The bytes that many calls on many maps make, and leave behind. */
    private static long garbage() {
        com.sun.management.ThreadMXBean bean = (com.sun.management.ThreadMXBean) ManagementFactory.getThreadMXBean();
        ShadeClasses[] maps = new ShadeClasses[BUSY_MAPS];
        for (int i = 0; i < BUSY_MAPS; i++) {
            maps[i] = new ShadeClasses();
        }
        long self = Thread.currentThread().getId();
        bean.getThreadAllocatedBytes(self);
        long ahead = bean.getThreadAllocatedBytes(self);
        for (ShadeClasses map : maps) {
            busy(map);
        }
        return bean.getThreadAllocatedBytes(self) - ahead;
    }

    /** Each call of the face, with a full map, a full text, editions, images and more changes than are known. */
    private static void busy(ShadeClasses x) {
        for (char c : TOLD) {
            x.type(c);
        }
        x.map();
        for (int i = 0; i < 25; i++) {
            x.puts(i / 10, i % 10, i * 37 % 1000);
            x.now(i % 7);
            x.moved();
            x.closes();
        }
        for (int i = 0; i < 12; i++) {
            x.keep(i % 3);
            x.asks(i % 7);
            x.costs(i * 90);
            x.least(i % 7, 0);
            x.gain(i % 7, i % 4);
            x.last(i % 7, i);
            x.enough(i * 9);
            x.spread(i % 3);
            x.sorted(i, i % 3);
            x.place(0, i, i % 3);
            x.drops(0, i);
            x.count(i);
            x.back(i % 3);
            x.undo();
        }
        for (int i = 0; i < 151; i++) {
            x.type('p');
        }
        x.map();
        x.clear();
    }
}
