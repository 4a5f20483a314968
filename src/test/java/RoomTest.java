import java.lang.reflect.Array;
import java.lang.reflect.Field;
import java.lang.reflect.Modifier;
import java.util.ArrayDeque;
import java.util.Collections;
import java.util.Deque;
import java.util.IdentityHashMap;
import java.util.Set;

/** What an object keeps: a small part of the room of a run, and no more behind its dearest calls than RULES add. */
public final class RoomTest {
    private static final Due due = new Due("RoomTest");
    private static int objects;
    private static long elements;

    public static void main(String[] args) throws IllegalAccessException {
        ClauseCourt c = new ClauseCourt();
        weigh(c);
        due.is("objects of a new one: " + objects, 1, objects < 200 ? 1 : 0);
        due.is("elements of a new one: " + elements, 1, elements < 200000 ? 1 : 0);
        c.names(12);
        Hand.paper(c, 0, 1, 2, 3, 4, 5, 6, 7, 8, 9, 10, 11, 12);
        for (int i = 0; i < 60; i++) {
            c.atMost(0, i % 13);
            c.clause(0);
            Hand.told(c, "&(x1,x2,x3,x4,x5,x6,x7,|(x8,x9))");
        }
        weigh(c);
        int objectsThen = objects;
        long elementsThen = elements;
        for (int i = 0; i < 60; i++) {
            c.solve(500);
            c.count(64, 5000);
            c.shrink(5000);
            c.check();
            c.forced();
            c.export();
            c.print(i);
            c.ask(i, 0);
            c.next(500);
        }
        weigh(c);
        due.is("objects", objectsThen, objects);
        due.is("elements", elementsThen, elements);
        due.end();
    }

    private static void weigh(Object whole) throws IllegalAccessException {
        objects = 0;
        elements = 0;
        Set<Object> seen = Collections.newSetFromMap(new IdentityHashMap<>());
        Deque<Object> open = new ArrayDeque<>();
        open.add(whole);
        while (!open.isEmpty()) {
            Object one = open.remove();
            if (!seen.add(one)) {
                continue;
            }
            objects++;
            if (one.getClass().isArray()) {
                elements += Array.getLength(one);
                for (int i = 0; !one.getClass().getComponentType().isPrimitive() && i < Array.getLength(one); i++) {
                    if (Array.get(one, i) != null) {
                        open.add(Array.get(one, i));
                    }
                }
                continue;
            }
            for (Class<?> of = one.getClass(); of != Object.class; of = of.getSuperclass()) {
                for (Field field : of.getDeclaredFields()) {
                    if (Modifier.isStatic(field.getModifiers())) {
                        continue;
                    }
                    elements++;
                    field.setAccessible(true);
                    if (!field.getType().isPrimitive() && field.get(one) != null) {
                        open.add(field.get(one));
                    }
                }
            }
        }
    }
}
