import java.io.IOException;
import java.lang.reflect.Method;
import java.lang.reflect.Modifier;
import java.nio.file.Files;
import java.nio.file.Path;
import java.util.regex.Matcher;
import java.util.regex.Pattern;

/** What README.md says: its example answers so, and it names every call. */
public final class ReadmeTest {
    private static final Check CHECK = new Check();

    private static Object value(String written, Class<?> type) {
        return type == boolean.class ? (Object) Boolean.valueOf(written) : (Object) Integer.valueOf(written);
    }

    private static Method named(String name) {
        for (Method m : GlassWatch.class.getDeclaredMethods()) if (m.getName().equals(name)) return m;
        throw new IllegalArgumentException(name);
    }

    /** Each line of the example of the form 'x.call(..); // answer', one after the other. */
    private static void example(String readme) throws ReflectiveOperationException {
        Matcher text = Pattern.compile("\\(\"(.*?)\"\\s*\\+ \"(.*?)\"\\)\\.getBytes", Pattern.DOTALL).matcher(readme);
        CHECK.due("the example has a text", text.find(), true);
        String told = text.group(1) + text.group(2);
        GlassWatch x = new GlassWatch();
        Check.feed(x, told);
        Matcher calls = Pattern.compile("(?m)^x\\.(\\w+)\\((.*)\\);\\s+// (-?\\w+)").matcher(readme);
        int count = 0;
        while (calls.find()) {
            Method method = named(calls.group(1));
            Class<?>[] types = method.getParameterTypes();
            String[] written = calls.group(2).replace("text.length", String.valueOf(told.length())).split(", ");
            Object[] values = new Object[types.length];
            for (int i = 0; i < values.length; i++) values[i] = value(written[i], types[i]);
            CHECK.due(calls.group().trim(), String.valueOf(method.invoke(x, values)).equals(calls.group(3)), true);
            count++;
        }
        CHECK.due("calls of the example, " + count, count >= 5, true);
    }

    private static void everyCall(String readme) {
        for (Method m : GlassWatch.class.getDeclaredMethods()) {
            if (Modifier.isPublic(m.getModifiers())) {
                CHECK.due("README.md names " + m.getName(), readme.contains("`" + m.getName() + "`"), true);
            }
        }
    }

    public static void main(String[] args) throws IOException, ReflectiveOperationException {
        String readme = Files.readString(Path.of("README.md"));
        example(readme);
        everyCall(readme);
        CHECK.end();
    }
}
