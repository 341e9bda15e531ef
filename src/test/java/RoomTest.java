import java.lang.management.ManagementFactory;
import java.lang.reflect.Array;
import java.lang.reflect.Field;
import java.lang.reflect.Modifier;
import java.util.ArrayDeque;
import java.util.Deque;
import java.util.IdentityHashMap;
import java.util.Map;

/** What one object holds: few objects and elements, no more after many calls; and no call makes one and drops it. */
public final class RoomTest {
    private static final Check CHECK = new Check();
    private static final int MOST_OBJECTS = 120;
    private static final int MOST_ELEMENTS = 2500;

    private int objects;
    private int elements;
    private final Map<Object, Boolean> seen = new IdentityHashMap<>();
    private final Deque<Object> left = new ArrayDeque<>();

    private static RoomTest of(GlassWatch x) throws IllegalAccessException {
        RoomTest room = new RoomTest();
        room.meet(x);
        while (!room.left.isEmpty()) room.count(room.left.pop());
        return room;
    }

    private void meet(Object one) {
        if (one != null && seen.put(one, true) == null) left.push(one);
    }

    private void count(Object one) throws IllegalAccessException {
        objects++;
        if (one.getClass().isArray()) {
            elements += Array.getLength(one);
            if (one instanceof Object[] several) for (Object o : several) meet(o);
            return;
        }
        for (Field f : one.getClass().getDeclaredFields()) {
            if (Modifier.isStatic(f.getModifiers())) continue;
            elements++;
            f.setAccessible(true);
            if (!f.getType().isPrimitive()) meet(f.get(one));
        }
    }

    private static void useIt(GlassWatch x) {
        Check.load(x, Texts.FULL);
        for (int i = 0; i < 30; i++) {
            x.attend(i % 12);
            x.steer(i % 12, i % 4);
            x.relieve(i % 12, i % 5);
            x.image();
            x.change();
            x.fix();
            x.attendFor(10 * i);
            x.mean(12, true);
            x.wrecks(i, 20);
            x.canBe(i % 13);
            View.led(x, i);
            x.back(i % 4);
            x.undo();
        }
        Check.load(x, Texts.FOUR);
        Check.load(x, "x");
    }

    /** Every call but led, whose exception is an object, with numbers that are answered and that are refused. */
    private static long allCalls(GlassWatch x, int i, boolean p) {
        long sum = x.fault() + x.where() + x.watch(i, 5) + x.boy(i, 3) + x.officer(i, 1) + x.glass(i, 1) + x.stolen(i);
        sum += x.stolenBy(i) + x.thief() + x.lostWatch() + x.at(i, p) + x.thought(i, p) + x.error(i) + x.worst();
        sum += x.square(i) + x.squareThought(i) + x.strikes() + x.feared() + x.canBe(i) + x.perils();
        sum += x.attendFor(100 * i) + x.stolenIf(i) + x.lookFirst() + x.change() + x.strikesIf(i, 1) + x.relief(i);
        sum += x.fits() + x.fitAt(i) + x.could() + x.surely() + x.fix() + x.fixLeaves() + x.judge();
        sum += x.odds(i, 100, p) + x.mean(i, p) + x.dearest() + x.steals(i, p, p, p) + x.rests(i) + x.rest(i);
        sum += x.idled(i, i) + x.squareBy(i, i) + x.wrecks(i, i) + x.attend(i) + x.relieve(i, 1) + x.image();
        boolean steered = x.steer(i, 2) | x.undo() | x.back(i);
        return sum + x.size(i) + x.trouble() + (steered ? 1 : 0) + x.feed(i, i, i, i, i) + x.voyage(i);
    }

    private static void makesNone() {
        com.sun.management.ThreadMXBean counter = (com.sun.management.ThreadMXBean) ManagementFactory.getThreadMXBean();
        GlassWatch x = Check.loaded(Texts.FULL);
        GlassWatch none = new GlassWatch();
        int[] text = {0x766f7961, 0x67652066, 0x726f6d20, 0x30203020, 0x636c6f75};
        long sum = 0;
        long made = 0;
        // The machine loads what it needs in the first rounds, and counting itself takes some bytes.
        for (int round = 0; round < 6; round++) {
            long before = counter.getCurrentThreadAllocatedBytes();
            for (int i = -1; i < 14; i++) {
                sum += allCalls(x, i, i % 2 == 0) + allCalls(none, i, i % 2 == 0);
                x.feed(text[0], text[1], text[2], text[3], text[4]);
                sum += x.voyage(20);
            }
            made = counter.getCurrentThreadAllocatedBytes() - before;
        }
        CHECK.due("bytes that some 1,600 calls made, " + made, made < 200, true);
        CHECK.due("they were answered", sum != 0, true);
    }

    public static void main(String[] args) throws IllegalAccessException {
        GlassWatch x = new GlassWatch();
        RoomTest before = of(x);
        CHECK.due("objects, " + before.objects, before.objects <= MOST_OBJECTS, true);
        CHECK.due("fields and elements, " + before.elements, before.elements <= MOST_ELEMENTS, true);
        useIt(x);
        RoomTest after = of(x);
        CHECK.due("objects after many calls", after.objects, before.objects);
        CHECK.due("fields and elements after many calls", after.elements, before.elements);
        makesNone();
        System.out.println("one object holds " + after.objects + " objects, " + after.elements + " fields and elements");
        CHECK.end();
    }
}
