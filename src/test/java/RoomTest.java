import java.lang.reflect.Array;
import java.lang.reflect.Field;
import java.lang.reflect.Modifier;
import java.util.ArrayDeque;
import java.util.Deque;
import java.util.IdentityHashMap;
import java.util.Map;

/** What one object holds: few objects and elements, and no more of them after 512 calls. */
public final class RoomTest {
    private static final Check CHECK = new Check();
    private static final int MOST_OBJECTS = 120;
    private static final int MOST_ELEMENTS = 2500;

    private int objects;
    private int elements;
    private final Map<Object, Boolean> seen = new IdentityHashMap<>();
    private final Deque<Object> left = new ArrayDeque<>();

    private static RoomTest of(GlassWatch x) throws IllegalAccessException {
        RoomTest room = new RoomTest();
        room.meet(x);
        while (!room.left.isEmpty()) room.count(room.left.pop());
        return room;
    }

    private void meet(Object one) {
        if (one != null && seen.put(one, true) == null) left.push(one);
    }

    private void count(Object one) throws IllegalAccessException {
        objects++;
        if (one.getClass().isArray()) {
            elements += Array.getLength(one);
            if (one instanceof Object[] several) for (Object o : several) meet(o);
            return;
        }
        for (Field f : one.getClass().getDeclaredFields()) {
            if (Modifier.isStatic(f.getModifiers())) continue;
            elements++;
            f.setAccessible(true);
            if (!f.getType().isPrimitive()) meet(f.get(one));
        }
    }

    private static void useIt(GlassWatch x) {
        Check.load(x, Texts.FULL);
        for (int i = 0; i < 30; i++) {
            x.attend(i % 12);
            x.steer(i % 12, i % 4);
            x.relieve(i % 12, i % 5);
            x.image();
            x.change();
            x.fix();
            x.attendFor(10 * i);
            x.mean(12, true);
            x.wrecks(i, 20);
            x.canBe(i % 13);
            View.led(x, i);
            x.back(i % 4);
            x.undo();
        }
        Check.load(x, Texts.FOUR);
        Check.load(x, "x");
    }

    public static void main(String[] args) throws IllegalAccessException {
        GlassWatch x = new GlassWatch();
        RoomTest before = of(x);
        CHECK.due("objects, " + before.objects, before.objects <= MOST_OBJECTS, true);
        CHECK.due("fields and elements, " + before.elements, before.elements <= MOST_ELEMENTS, true);
        useIt(x);
        RoomTest after = of(x);
        CHECK.due("objects after many calls", after.objects, before.objects);
        CHECK.due("fields and elements after many calls", after.elements, before.elements);
        System.out.println("one object holds " + after.objects + " objects, " + after.elements + " fields and elements");
        CHECK.end();
    }
}
