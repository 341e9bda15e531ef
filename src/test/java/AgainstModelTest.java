import java.nio.ByteBuffer;
import java.util.ArrayList;
import java.util.Arrays;
import java.util.Collections;
import java.util.List;
import java.util.NoSuchElementException;
import java.util.Random;

/** Runs of calls by chance (always the same ones), on GlassWatch and on the model alike. */
public final class AgainstModelTest {
    private static final String[] KINDS = {"honest", "sly", "bold", "sly", "bold"};
    private static final String[] COURSES = {"north", "east", "south", "west"};
    private static final String[] NAMES = {"ned", "tom", "ian", "a", "abcdefgh", "early", "north", "lee", "ray", "at", "sly"};
    private static final String[] SCRAPS = {
        "voyage", "boy", "officer", "watch", "noon", "shoal", "unsure", "found", "from", "clouds", "idle", "early",
        "every", "speed", "at", "ned", "lee", "honest", "east", ";", ";;", "0", "1", "7", "12", "13", "20", "21",
        "100", "101", "199", "200", "999", "1000", "007", "abcdefghi", "A", "-", " ", "  ", "x", "", "\u0000", "\u00e9"};

    private final Random random;
    private int wrong;
    private int calls;

    private AgainstModelTest(long seed) {
        random = new Random(seed);
    }

    private int below(int n) { return random.nextInt(n); }

    private int between(int low, int high) { return low + below(high - low + 1); }

    private String voyage() {
        int slow = below(3);
        int east = below(4) == 0 ? 0 : below(200);
        int north = below(4) == 0 ? 0 : below(200);
        StringBuilder t = new StringBuilder("voyage from " + east + " " + north + " clouds "
            + (below(4) == 0 ? 100 * below(2) : below(101)) + " idle " + (below(4) == 0 ? 100 * below(2) : below(101)));
        int boys = between(1, 5);
        int officers = between(1, 4);
        int shift = below(NAMES.length);
        for (int b = 0; b < boys; b++) {
            t.append(";boy ").append(NAMES[(shift + b) % NAMES.length]).append(' ').append(KINDS[below(5)])
                .append(" early ").append(below(21));
        }
        for (int f = 0; f < officers; f++) {
            t.append(";officer ").append(NAMES[(shift + 5 + f) % NAMES.length]).append(" every ").append(between(1, 9));
        }
        int watches = below(3) == 0 ? 12 : between(1, 12);
        for (int k = 0; k < watches; k++) {
            t.append(";watch ").append(NAMES[(shift + below(boys)) % NAMES.length]).append(' ')
                .append(NAMES[(shift + 5 + below(officers)) % NAMES.length]).append(' ').append(COURSES[below(4)])
                .append(" speed ").append(slow == 0 ? below(2) : below(10));
        }
        for (int i = below(5), n = 1; i > 0 && n <= watches; i--, n += between(1, 3)) t.append(";noon at ").append(n);
        for (int i = 0, m = below(7); i < m; i++) {
            t.append(";shoal ").append(clip(east + between(-6, 6))).append(' ').append(clip(north - 3 + i));
        }
        for (int i = 0, m = below(Math.min(boys, 4) + 1); i < m; i++) {
            t.append(";unsure ").append(NAMES[(shift + i) % NAMES.length]).append(' ').append(below(21));
        }
        boolean onItsWay = below(2) == 0;
        Model way = new Model();
        if (onItsWay) tell(way, t.toString());
        for (int i = below(3), n = below(2); i > 0 && n <= watches; i--, n += between(1, 3)) {
            int off = onItsWay ? 0 : 2;
            int e = onItsWay && way.size(4) > 0 ? way.square(n) / 1000 - 300 : east;
            int o = onItsWay && way.size(4) > 0 ? way.square(n) % 1000 - 300 : north;
            t.append(";found ").append(n).append(" at ").append(clip(e + between(-off, off))).append(' ')
                .append(clip(o + between(-off, off)));
        }
        return below(2) == 0 ? t.toString() : shuffled(t.toString(), 1 + boys + officers);
    }

    /** The same lines, those behind the first ones in any order: a noon may be told ahead of its watches. */
    private String shuffled(String text, int first) {
        List<String> lines = new ArrayList<>(Arrays.asList(text.split(";")));
        Collections.shuffle(lines.subList(first, lines.size()), random);
        return String.join(";", lines);
    }

    private static void tell(Model m, String text) {
        byte[] bytes = Arrays.copyOf(text.getBytes(), (text.length() + 19) / 20 * 20);
        for (int i = 0; i + 20 <= bytes.length; i += 20) {
            ByteBuffer five = ByteBuffer.wrap(bytes, i, 20);
            m.feed(five.getInt(), five.getInt(), five.getInt(), five.getInt(), five.getInt());
        }
        m.voyage(text.length());
    }

    private static int clip(int v) { return Math.max(0, Math.min(199, v)); }

    private String spoilt(String text) {
        int from = below(text.length());
        switch (below(6)) {
            case 0: return text.substring(0, from);
            case 1: return text.substring(0, from) + SCRAPS[below(SCRAPS.length)] + text.substring(from);
            case 2: return text.substring(0, from) + " " + SCRAPS[below(SCRAPS.length)] + " " + text.substring(from);
            case 3: {
                int to = Math.min(text.length(), from + between(1, 8));
                return text.substring(0, from) + SCRAPS[below(SCRAPS.length)] + text.substring(to);
            }
            case 4: {
                String[] lines = text.split(";");
                return text + ";" + lines[below(lines.length)];
            }
            default: {
                String[] tokens = text.replace(";", " ; ").split(" +");
                tokens[below(tokens.length)] = SCRAPS[below(SCRAPS.length)];
                return String.join(" ", tokens);
            }
        }
    }

    private void same(String call, long got, long want) {
        calls++;
        if (got != want) {
            wrong++;
            if (wrong < 30) System.out.println(call + " answered " + got + ", the model " + want);
        }
    }

    private void feedBoth(GlassWatch x, Model m, String text) {
        for (int from = 0; from < text.length(); from += 20) {
            int[] five = new int[5];
            for (int i = 0; i < 20; i++) {
                five[i / 4] = five[i / 4] << 8 | (from + i < text.length() ? text.charAt(from + i) & 255 : 32);
            }
            same("feed", x.feed(five[0], five[1], five[2], five[3], five[4]),
                m.feed(five[0], five[1], five[2], five[3], five[4]));
        }
    }

    private void reads(GlassWatch x, Model m, String text, int n) {
        feedBoth(x, m, text);
        same("size(11) of " + text, x.size(11), m.size(11));
        same("voyage(" + n + ") of " + text, x.voyage(n), m.voyage(n));
        same("trouble() of " + text, x.trouble(), m.trouble());
        same("fault() of " + text, x.fault(), m.fault());
        same("where() of " + text, x.where(), m.where());
    }

    private int number(int usual) {
        int r = below(12);
        return r == 0 ? -1 : r == 1 ? usual + 1 : r == 2 ? random.nextInt() : between(0, usual);
    }

    private void oneCall(GlassWatch x, Model m, String t) {
        int n = Math.max(m.size(4), 1);
        int k = number(n - 1);
        int a = number(n);
        boolean p = random.nextBoolean();
        boolean q = random.nextBoolean();
        boolean r = random.nextBoolean();
        switch (below(53)) {
            case 0: { int w = number(5); same("watch(" + k + "," + w + ") " + t, x.watch(k, w), m.watch(k, w)); break; }
            case 1: { int b = number(4); int w = number(3); same("boy(" + b + "," + w + ") " + t, x.boy(b, w), m.boy(b, w)); break; }
            case 2: { int f = number(3); int w = number(1); same("officer(" + f + "," + w + ") " + t, x.officer(f, w), m.officer(f, w)); break; }
            case 3: { int g = number(8); same("glass(" + k + "," + g + ") " + t, x.glass(k, g), m.glass(k, g)); break; }
            case 4: same("stolen(" + k + ") " + t, x.stolen(k), m.stolen(k)); break;
            case 5: same("stolenBy(" + a + ") " + t, x.stolenBy(a), m.stolenBy(a)); break;
            case 6: same("thief() " + t, x.thief(), m.thief()); break;
            case 7: same("lostWatch() " + t, x.lostWatch(), m.lostWatch()); break;
            case 8: same("at(" + a + "," + p + ") " + t, x.at(a, p), m.at(a, p)); break;
            case 9: same("thought(" + a + "," + p + ") " + t, x.thought(a, p), m.thought(a, p)); break;
            case 10: same("error(" + a + ") " + t, x.error(a), m.error(a)); break;
            case 11: same("worst() " + t, x.worst(), m.worst()); break;
            case 12: same("square(" + a + ") " + t, x.square(a), m.square(a)); break;
            case 13: same("squareThought(" + a + ") " + t, x.squareThought(a), m.squareThought(a)); break;
            case 14: same("strikes() " + t, x.strikes(), m.strikes()); break;
            case 15: same("feared() " + t, x.feared(), m.feared()); break;
            case 16: same("canBe(" + a + ") " + t, x.canBe(a), m.canBe(a)); break;
            case 17: same("perils() " + t, x.perils(), m.perils()); break;
            case 18: { int v = number(999); same("attendFor(" + v + ") " + t, x.attendFor(v), m.attendFor(v)); break; }
            case 19: { int v = number((1 << n) - 1); same("stolenIf(" + v + ") " + t, x.stolenIf(v), m.stolenIf(v)); break; }
            case 20: same("lookFirst() " + t, x.lookFirst(), m.lookFirst()); break;
            case 21: same("change() " + t, x.change(), m.change()); break;
            case 22: { int c = number(3); same("strikesIf(" + k + "," + c + ") " + t, x.strikesIf(k, c), m.strikesIf(k, c)); break; }
            case 23: same("relief(" + k + ") " + t, x.relief(k), m.relief(k)); break;
            case 24: same("fits() " + t, x.fits(), m.fits()); break;
            case 25: { int i = number(15); same("fitAt(" + i + ") " + t, x.fitAt(i), m.fitAt(i)); break; }
            case 26: same("could() " + t, x.could(), m.could()); break;
            case 27: same("surely() " + t, x.surely(), m.surely()); break;
            case 28: same("fix() " + t, x.fix(), m.fix()); break;
            case 29: same("fixLeaves() " + t, x.fixLeaves(), m.fixLeaves()); break;
            case 30: same("judge() " + t, x.judge(), m.judge()); break;
            case 31: {
                int v = below(2) == 0 ? number(30000) : Math.max(0, x.error(Math.min(Math.max(a, 0), n)) + between(-1, 1));
                m.error(Math.min(Math.max(a, 0), n));
                same("odds(" + a + "," + v + "," + p + ") " + t, x.odds(a, v, p), m.odds(a, v, p));
                break;
            }
            case 32: same("mean(" + a + "," + p + ") " + t, x.mean(a, p), m.mean(a, p)); break;
            case 33: same("dearest() " + t, x.dearest(), m.dearest()); break;
            case 34: { int v = number(9); same("steals(" + v + ") " + t, x.steals(v, p, q, r), m.steals(v, p, q, r)); break; }
            case 35: { int v = number(9); same("rests(" + v + ") " + t, x.rests(v), m.rests(v)); break; }
            case 36: { int v = number(9); same("rest(" + v + ") " + t, x.rest(v), m.rest(v)); break; }
            case 37: { int s = number(65536); same("idled(" + s + "," + a + ") " + t, x.idled(s, a), m.idled(s, a)); break; }
            case 38: { int s = number(65536); same("squareBy(" + s + "," + a + ") " + t, x.squareBy(s, a), m.squareBy(s, a)); break; }
            case 39: { int s = number(65536); int v = number(20); same("wrecks(" + s + "," + v + ") " + t, x.wrecks(s, v), m.wrecks(s, v)); break; }
            case 40: case 41: case 42: same("attend(" + k + ") " + t, x.attend(k), m.attend(k)); break;
            case 43: case 44: { int c = number(3); same("steer(" + k + "," + c + ") " + t, x.steer(k, c) ? 1 : 0, m.steer(k, c) ? 1 : 0); break; }
            case 45: case 46: { int b = number(4); same("relieve(" + k + "," + b + ") " + t, x.relieve(k, b), m.relieve(k, b)); break; }
            case 47: same("undo() " + t, x.undo() ? 1 : 0, m.undo() ? 1 : 0); break;
            case 48: same("image() " + t, x.image(), m.image()); break;
            case 49: { int i = number(2); if (below(3) == 0) same("back(" + i + ") " + t, x.back(i) ? 1 : 0, m.back(i) ? 1 : 0); break; }
            case 50: { int i = number(n); same("led(" + i + ") " + t, led(x, i), led(m, i)); break; }
            case 51: { int w = number(11); same("size(" + w + ") " + t, x.size(w), m.size(w)); break; }
            default: same("where() " + t, x.where(), m.where()); break;
        }
        same("trouble() " + t, x.trouble(), m.trouble());
    }

    private static int led(GlassWatch x, int i) {
        try {
            return x.led(i);
        } catch (NoSuchElementException e) {
            return -1;
        }
    }

    private static int led(Model m, int i) {
        try {
            return m.led(i);
        } catch (NoSuchElementException e) {
            return -1;
        }
    }

    private void run() {
        GlassWatch x = new GlassWatch();
        Model m = new Model();
        for (int i = below(4); i > 0; i--) oneCall(x, m, "(no voyage)");
        for (int voyages = between(1, 2); voyages > 0; voyages--) {
            String text = voyage();
            for (int i = below(3); i > 0; i--) {
                String bad = spoilt(text);
                reads(x, m, bad, below(8) == 0 ? number(bad.length()) : bad.length());
            }
            reads(x, m, text, text.length());
            for (int i = 0; i < 90; i++) oneCall(x, m, text);
        }
    }

    public static void main(String[] args) {
        AgainstModelTest t = new AgainstModelTest(1701);
        for (int i = 0; i < 1500; i++) t.run();
        for (int i = 0; i < 20000; i++) {
            String bad = t.spoilt(t.voyage());
            t.reads(new GlassWatch(), new Model(), bad, bad.length());
        }
        System.out.println(t.calls + " answers held against the model, " + t.wrong + " differ");
        if (t.wrong != 0) System.exit(1);
    }
}
