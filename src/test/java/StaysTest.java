import java.lang.reflect.InvocationTargetException;
import java.lang.reflect.Method;
import java.lang.reflect.Modifier;
import java.util.ArrayList;
import java.util.Comparator;
import java.util.List;
import java.util.Random;
import java.util.Set;

/** Calls that ask, and calls that are refused, leave all as it was: of two objects alike one is asked, the other isn't. */
public final class StaysTest {
    private static final Check CHECK = new Check();
    private static final Set<String> CHANGING = Set.of("feed", "voyage", "attend", "steer", "relieve", "undo", "image", "back");
    private static final int[] NUMBERS = {Integer.MIN_VALUE, -1, 0, 1, 2, 3, 4, 7, 8, 11, 12, 99, 4095, 65536, Integer.MAX_VALUE};

    private static List<Method> asking() {
        List<Method> list = new ArrayList<>();
        for (Method m : GlassWatch.class.getDeclaredMethods()) {
            if (Modifier.isPublic(m.getModifiers()) && !CHANGING.contains(m.getName())) list.add(m);
        }
        list.sort(Comparator.comparing(Method::getName));
        return list;
    }

    private static void ask(GlassWatch x, Method m, Random random) throws IllegalAccessException {
        Class<?>[] types = m.getParameterTypes();
        Object[] values = new Object[types.length];
        for (int i = 0; i < types.length; i++) {
            if (types[i] == boolean.class) values[i] = random.nextBoolean();
            else values[i] = random.nextInt(3) > 0 ? random.nextInt(5) : NUMBERS[random.nextInt(NUMBERS.length)];
        }
        try {
            m.invoke(x, values);
        } catch (InvocationTargetException e) {
            CHECK.due(m.getName() + " throws", m.getName().equals("led"), true);
        }
    }

    private static void refuse(GlassWatch x) {
        int last = x.size(4);
        for (int wrong : new int[] {Integer.MIN_VALUE, -1, last, 12, Integer.MAX_VALUE}) {
            CHECK.due("attend", x.attend(wrong), -1);
            CHECK.due("steer", x.steer(wrong, 0), false);
            CHECK.due("steer", x.steer(0, wrong < 0 ? wrong : 4), false);
            CHECK.due("relieve", x.relieve(wrong, 0), -1);
            CHECK.due("relieve", x.relieve(0, wrong < 0 ? wrong : 5), -1);
            CHECK.due("voyage", x.voyage(wrong < 0 ? wrong : 901), -1);
        }
        for (int k = 0; k < last; k++) {
            CHECK.due("steer", x.steer(k, x.watch(k, 2)), false);
            CHECK.due("relieve", x.relieve(k, x.watch(k, 0)), -1);
        }
        CHECK.due("back", x.back(-1) || x.back(x.size(10)) || x.back(3), false);
        if (x.size(9) == 0) CHECK.due("undo", x.undo(), false);
        if (x.size(10) == 3) CHECK.due("image", x.image(), -1);
        if (last == 0) CHECK.due("image", x.image(), -1);
        if (x.size(11) == 900) CHECK.due("feed", x.feed(1, 2, 3, 4, 5), -1);
    }

    private static void change(GlassWatch x, int what, int k, int to) {
        switch (what) {
            case 0: x.attend(k); break;
            case 1: x.steer(k, to % 4); break;
            case 2: x.relieve(k, to); break;
            case 3: x.image(); break;
            case 4: x.back(to); break;
            case 5: x.undo(); break;
            default: x.feed(what, k, to, k, what); break;
        }
    }

    private static void same(GlassWatch asked, GlassWatch quiet, String when) {
        CHECK.due("all stays" + when, View.of(asked).equals(View.of(quiet)), true);
    }

    private static void run(String text, int seed, List<Method> asking) throws IllegalAccessException {
        Random random = new Random(seed);
        GlassWatch asked = new GlassWatch();
        GlassWatch quiet = new GlassWatch();
        if (!text.isEmpty()) Check.load(asked, text);
        if (!text.isEmpty()) Check.load(quiet, text);
        for (int step = 0; step < 24; step++) {
            int what = random.nextInt(7);
            int k = random.nextInt(4);
            int to = random.nextInt(4);
            change(asked, what, k, to);
            change(quiet, what, k, to);
            for (int i = 0; i < 10; i++) ask(asked, asking.get(random.nextInt(asking.size())), random);
            if (step % 6 == 0) refuse(asked);
            if (step % 6 == 0) same(asked, quiet, "");
        }
        CHECK.due("what can be undone stays", View.undone(asked).equals(View.undone(quiet)), true);
        for (int i = 0; i < 3; i++) {
            CHECK.due("images stay", asked.back(i) == quiet.back(i), true);
            same(asked, quiet, " of image " + i);
        }
        CHECK.due("the tape stays", asked.voyage(asked.size(11)) == quiet.voyage(quiet.size(11)), true);
        CHECK.due("its fault too", asked.fault() * 1000 + asked.where(), quiet.fault() * 1000 + quiet.where());
    }

    public static void main(String[] args) throws IllegalAccessException {
        List<Method> asking = asking();
        CHECK.promise(54);
        CHECK.due("calls that ask", asking.size(), 45);
        String[] texts = {"", Texts.FOUR, Texts.FULL, Texts.WEST};
        for (int seed = 0; seed < 120; seed++) run(texts[seed % 4], seed, asking);
        CHECK.end();
    }
}
