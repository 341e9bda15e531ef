import java.io.IOException;
import java.lang.reflect.Field;
import java.lang.reflect.Method;
import java.lang.reflect.Modifier;
import java.nio.file.Files;
import java.nio.file.Path;
import java.util.Arrays;
import java.util.Set;
import java.util.TreeSet;
import java.util.regex.Matcher;
import java.util.regex.Pattern;

/** The face, and those rules of LANGUAGE.md that a look at the class and its source can tell. */
public final class RulesTest {
    private static final Check CHECK = new Check();

    private static final String FACE = "at(int,boolean) attend(int) attendFor(int) back(int) boy(int,int) canBe(int) "
        + "change() could() dearest() error(int) fault() feared() feed(int,int,int,int,int) fitAt(int) fits() fix() "
        + "fixLeaves() glass(int,int) idled(int,int) image() judge() led(int) lookFirst() lostWatch() mean(int,boolean) "
        + "odds(int,int,boolean) officer(int,int) perils() relief(int) relieve(int,int) rest(int) rests(int) size(int) "
        + "square(int) squareBy(int,int) squareThought(int) steals(int,boolean,boolean,boolean) steer(int,int) "
        + "stolen(int) stolenBy(int) stolenIf(int) strikes() strikesIf(int,int) surely() thief() thought(int,boolean) "
        + "trouble() undo() voyage(int) watch(int,int) where() worst() wrecks(int,int)";

    private static void face() {
        Set<String> open = new TreeSet<>();
        Set<String> openNames = new TreeSet<>();
        for (Method m : GlassWatch.class.getDeclaredMethods()) {
            if (Modifier.isPublic(m.getModifiers())) {
                String types = String.join(",", Arrays.stream(m.getParameterTypes()).map(Class::getName).toList());
                open.add(m.getName() + "(" + types + ")");
                openNames.add(m.getName());
            }
        }
        CHECK.due("the face is " + open, open.equals(new TreeSet<>(Arrays.asList(FACE.split(" ")))), true);
        for (Method m : GlassWatch.class.getDeclaredMethods()) {
            boolean hidden = Modifier.isPrivate(m.getModifiers());
            CHECK.due(m + " is open or private", hidden || Modifier.isPublic(m.getModifiers()), true);
            CHECK.due(m + " bears an open name", hidden && openNames.contains(m.getName()), false);
        }
        int own = 0;
        for (Field f : GlassWatch.class.getDeclaredFields()) {
            boolean right = f.getName().equals("NONE") || Modifier.isPrivate(f.getModifiers());
            CHECK.due(f + " is private", right, true);
            if (!Modifier.isStatic(f.getModifiers())) own++;
        }
        CHECK.due("fields of the class, " + own, own <= 20, true);
        CHECK.due("the class is public and final", GlassWatch.class.getModifiers(), Modifier.PUBLIC | Modifier.FINAL);
        CHECK.due("constructors", GlassWatch.class.getDeclaredConstructors().length, 1);
    }

    private static void inside() {
        Class<?>[] inside = GlassWatch.class.getDeclaredClasses();
        CHECK.due("classes inside, " + inside.length, inside.length <= 12, true);
        Set<String> openNames = new TreeSet<>();
        for (String f : FACE.split(" ")) openNames.add(f.substring(0, f.indexOf('(')));
        for (Class<?> c : inside) {
            CHECK.due(c + " is static", Modifier.isStatic(c.getModifiers()), true);
            CHECK.due(c + " is not public", Modifier.isPublic(c.getModifiers()), false);
            for (Method m : c.getDeclaredMethods()) {
                CHECK.due(m + " bears an open name", openNames.contains(m.getName()), false);
                CHECK.due(m + " takes at most seven", m.getParameterCount() <= 7, true);
            }
            for (Field f : c.getDeclaredFields()) {
                boolean right = !Modifier.isStatic(f.getModifiers()) || Modifier.isFinal(f.getModifiers());
                CHECK.due(f + " is final if static", right, true);
            }
        }
    }

    private static void source(String path) throws IOException {
        String text = Files.readString(Path.of(path));
        CHECK.due("signs of the source are 1 to 127", text.chars().allMatch(c -> c >= 1 && c <= 127), true);
        String code = text.replaceAll("(?s)/\\*.*?\\*/", " ").replaceAll("//[^\n]*", " ").replaceAll("\"[^\"]*\"", "\"\"");
        for (String word : new String[] {"finally", "synchronized", "assert", "try", "catch", "protected", "instanceof",
            "package", "System", "Thread", "Random", "float", "double", "hashCode", "toString", "equals", "getMessage"}) {
            CHECK.due(word + " in the source", Pattern.compile("\\b" + word + "\\b").matcher(code).find(), false);
        }
        for (String sign : new String[] {"->", "::", "static {", "@", "Exact("}) {
            CHECK.due(sign + " in the source", code.contains(sign), false);
        }
        Matcher imports = Pattern.compile("import ([^;]*);").matcher(code);
        while (imports.find()) {
            CHECK.due("import " + imports.group(1), imports.group(1).equals("java.util.NoSuchElementException"), true);
        }
        Matcher thrown = Pattern.compile("throw new (\\w+)\\(").matcher(code);
        while (thrown.find()) {
            CHECK.due("throw of " + thrown.group(1), thrown.group(1).equals("NoSuchElementException"), true);
        }
        longMethods(text);
    }

    private static void longMethods(String text) {
        String[] lines = text.split("\n");
        int began = -1;
        String indent = "";
        for (int i = 0; i < lines.length; i++) {
            Matcher begins = Pattern.compile("^( {4}| {8})[a-zA-Z][^=;]*\\) (throws \\w+ )?\\{$").matcher(lines[i]);
            if (begins.find()) {
                began = i;
                indent = begins.group(1);
            } else if (began >= 0 && lines[i].equals(indent + "}")) {
                CHECK.due(lines[began].trim() + " is " + (i - began + 1) + " lines", i - began + 1 <= 60, true);
                began = -1;
            }
        }
    }

    public static void main(String[] args) throws IOException {
        face();
        inside();
        source(args.length > 0 ? args[0] : "src/main/java/GlassWatch.java");
        CHECK.end();
    }
}
