import java.lang.reflect.Array;
import java.lang.reflect.Field;
import java.lang.reflect.Modifier;
import java.util.ArrayDeque;
import java.util.Collections;
import java.util.Deque;
import java.util.IdentityHashMap;
import java.util.Set;

/** The room of a run: what an object holds, when it is new and behind its last call. */
public final class RoomTest {
    /** So much there is for a whole run; each of 512 calls might make an object, and all would have their place. */
    private static final int MOST_OBJECTS = 600_000 / 512;
    private static final int MOST_ELEMENTS = 7_300_000 / 512;

    private long objects = 0;
    private long elements = 0;

    public static void main(String[] args) throws IllegalAccessException {
        SwallowedInTurn x = new SwallowedInTurn();
        RoomTest before = new RoomTest(x);
        Check.due("objects and arrays of a new one, " + before.objects, before.objects <= MOST_OBJECTS ? 1 : 0, 1);
        Check.due("fields and elements of a new one, " + before.elements, before.elements <= MOST_ELEMENTS ? 1 : 0, 1);
        useUp(x);
        RoomTest after = new RoomTest(x);
        Check.due("objects and arrays behind all calls", after.objects, before.objects);
        Check.due("fields and elements behind all calls", after.elements, before.elements);
        Check.end();
    }

    /** 512 calls, of each sort many. */
    private static void useUp(SwallowedInTurn x) {
        for (int i = 0; i < 6; i++) {
            x.being(1, 1, 20, 31);
        }
        for (int i = 0; i < 22; i++) {
            long[] answers = {x.letter('c'), x.letter('0'), x.fault(), x.tale(), x.about(i % 5, 7), x.as(1, 1),
                x.may(i), x.deed(i % 2 == 0 ? 1 : 30), x.number(), x.soonest(31, 1), x.together(0, 1), x.deep(4),
                x.many(), x.nesting(i), x.told(1, 29), x.fits(), x.sure(2), x.ask(), x.days(60, i, 0), x.image(),
                x.restore(), x.count(5), x.digest()};
            Check.due("all answers of round " + i + " are told", answers.length, 23);
        }
    }

    private RoomTest(Object root) throws IllegalAccessException {
        Set<Object> seen = Collections.newSetFromMap(new IdentityHashMap<>());
        Deque<Object> left = new ArrayDeque<>();
        left.add(root);
        while (!left.isEmpty()) {
            Object it = left.remove();
            if (seen.add(it)) {
                objects++;
                if (it.getClass().isArray()) {
                    countArray(it, left);
                } else {
                    countFields(it, left);
                }
            }
        }
    }

    private void countArray(Object array, Deque<Object> left) {
        elements += Array.getLength(array);
        if (array instanceof Object[]) {
            for (Object it : (Object[]) array) {
                if (it != null) {
                    left.add(it);
                }
            }
        }
    }

    private void countFields(Object it, Deque<Object> left) throws IllegalAccessException {
        for (Field field : it.getClass().getDeclaredFields()) {
            if (!Modifier.isStatic(field.getModifiers())) {
                elements++;
                field.setAccessible(true);
                Object value = field.get(it);
                if (!field.getType().isPrimitive() && value != null) {
                    left.add(value);
                }
            }
        }
    }
}
