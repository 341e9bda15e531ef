import java.math.BigInteger;
import java.util.ArrayList;
import java.util.Arrays;
import java.util.HashMap;
import java.util.HashSet;
import java.util.List;
import java.util.Map;
import java.util.NoSuchElementException;
import java.util.Set;

/** The document's words a second time, in the plainest way, to hold GlassWatch against. */
final class Model {
    record Token(String text, int place) { }

    static final class Fault extends Exception {
        final int number;
        final int place;

        Fault(int number, int place) {
            this.number = number;
            this.place = place;
        }
    }

    static final class Story {
        int east, north, clouds, idle;
        boolean begun;
        List<int[]> boys = new ArrayList<>();      // kind, early
        List<int[]> officers = new ArrayList<>();  // every
        List<int[]> watches = new ArrayList<>();   // boy, officer, course, speed
        List<int[]> noons = new ArrayList<>();     // after
        List<int[]> shoals = new ArrayList<>();    // east, north
        List<int[]> unsure = new ArrayList<>();    // boy, early
        List<int[]> found = new ArrayList<>();     // after, east, north
        Map<String, int[]> names = new HashMap<>(); // sort (0 boy, 1 officer), number
    }

    /** Boys, courses and looks as they are at one time. */
    static final class State {
        int[] boys, courses;
        boolean[] attended;

        State copy() {
            State s = new State();
            s.boys = boys.clone();
            s.courses = courses.clone();
            s.attended = attended.clone();
            return s;
        }
    }

    static final String LINES = " voyage boy officer watch noon shoal unsure found ";

    private byte[] tape = new byte[0];
    private Story story;
    private State now;
    private List<State> undo = new ArrayList<>();
    private List<State> images = new ArrayList<>();
    private int trouble, fault, place;

    // ---- reading

    private static List<Token> tokens(String text) {
        List<Token> list = new ArrayList<>();
        int i = 0;
        while (i < text.length()) {
            char c = text.charAt(i);
            int j = i + 1;
            if (c == ' ') {
                i++;
                continue;
            }
            if (c >= 'a' && c <= 'z') {
                while (j < text.length() && text.charAt(j) >= 'a' && text.charAt(j) <= 'z') j++;
            } else if (c >= '0' && c <= '9') {
                while (j < text.length() && text.charAt(j) >= '0' && text.charAt(j) <= '9') j++;
            }
            list.add(new Token(text.substring(i, j), i));
            i = j;
        }
        list.add(new Token("", text.length()));
        return list;
    }

    private static boolean isWord(String t) { return t.matches("[a-z]{1,8}"); }

    private static final class Walk {
        List<Token> tokens;
        int next;
        Story s = new Story();

        Token take() { return tokens.get(next++); }

        void word(String... due) throws Fault {
            Token t = take();
            if (!Arrays.asList(due).contains(t.text)) throw new Fault(1, t.place);
        }

        int oneOf(String... due) throws Fault {
            Token t = take();
            int i = Arrays.asList(due).indexOf(t.text);
            if (i < 0) throw new Fault(1, t.place);
            return i;
        }

        int whole(int low, int high, List<int[]> once) throws Fault {
            Token t = take();
            if (!t.text.matches("[0-9]{1,3}")) throw new Fault(1, t.place);
            int v = Integer.parseInt(t.text);
            if (once != null) for (int[] o : once) if (o[0] == v) throw new Fault(3, t.place);
            if (v < low || v > high) throw new Fault(4, t.place);
            return v;
        }

        Token name() throws Fault {
            Token t = take();
            if (!isWord(t.text) || LINES.contains(" " + t.text + " ")) throw new Fault(1, t.place);
            return t;
        }

        String fresh() throws Fault {
            Token t = name();
            if (s.names.containsKey(t.text)) throw new Fault(3, t.place);
            return t.text;
        }

        int known(int sort, List<int[]> once) throws Fault {
            Token t = name();
            int[] n = s.names.get(t.text);
            if (n == null || n[0] != sort) throw new Fault(2, t.place);
            if (once != null) for (int[] o : once) if (o[0] == n[1]) throw new Fault(3, t.place);
            return n[1];
        }

        void line() throws Fault {
            Token t = take();
            if (!LINES.contains(" " + t.text + " ") || t.text.isEmpty()) throw new Fault(1, t.place);
            if (t.text.equals("voyage") && s.begun) throw new Fault(3, t.place);
            if (!t.text.equals("voyage") && !s.begun) throw new Fault(6, t.place);
            s.begun = true;
            List<int[]> of = switch (t.text) {
                case "boy" -> s.boys;
                case "officer" -> s.officers;
                case "watch" -> s.watches;
                case "noon" -> s.noons;
                case "shoal" -> s.shoals;
                case "unsure" -> s.unsure;
                case "found" -> s.found;
                default -> null;
            };
            int room = switch (t.text) {
                case "boy" -> 5;
                case "officer", "noon", "unsure" -> 4;
                case "watch" -> 12;
                case "shoal" -> 6;
                default -> 3;
            };
            if (of != null && of.size() == room) throw new Fault(5, t.place);
            rest(t.text);
        }

        void rest(String line) throws Fault {
            switch (line) {
                case "voyage" -> {
                    word("from");
                    s.east = whole(0, 199, null);
                    s.north = whole(0, 199, null);
                    word("clouds");
                    s.clouds = whole(0, 100, null);
                    word("idle");
                    s.idle = whole(0, 100, null);
                }
                case "boy" -> {
                    String n = fresh();
                    int kind = oneOf("honest", "sly", "bold");
                    word("early");
                    int early = whole(0, 20, null);
                    s.names.put(n, new int[] {0, s.boys.size()});
                    s.boys.add(new int[] {kind, early});
                }
                case "officer" -> {
                    String n = fresh();
                    word("every");
                    int every = whole(1, 9, null);
                    s.names.put(n, new int[] {1, s.officers.size()});
                    s.officers.add(new int[] {every});
                }
                case "watch" -> {
                    int b = known(0, null);
                    int f = known(1, null);
                    int c = oneOf("north", "east", "south", "west");
                    word("speed");
                    s.watches.add(new int[] {b, f, c, whole(0, 9, null)});
                }
                case "noon" -> {
                    word("at");
                    s.noons.add(new int[] {whole(1, 12, s.noons)});
                }
                case "shoal" -> {
                    int e = whole(0, 199, null);
                    List<int[]> like = new ArrayList<>();
                    for (int[] o : s.shoals) if (o[0] == e) like.add(new int[] {o[1]});
                    s.shoals.add(new int[] {e, whole(0, 199, like)});
                }
                case "unsure" -> {
                    int b = known(0, s.unsure);
                    s.unsure.add(new int[] {b, whole(0, 20, null)});
                }
                default -> {
                    int after = whole(0, 12, s.found);
                    word("at");
                    int e = whole(0, 199, null);
                    s.found.add(new int[] {after, e, whole(0, 199, null)});
                }
            }
        }

        void all() throws Fault {
            while (true) {
                line();
                Token t = take();
                if (t.text.isEmpty()) {
                    if (s.watches.isEmpty()) throw new Fault(6, t.place);
                    for (int[] o : s.noons) if (o[0] > s.watches.size()) throw new Fault(7, t.place);
                    for (int[] o : s.found) if (o[0] > s.watches.size()) throw new Fault(7, t.place);
                    return;
                }
                if (!t.text.equals(";")) throw new Fault(1, t.place);
            }
        }
    }

    int feed(int a, int b, int c, int d, int e) {
        if (tape.length + 20 > 900) return -1;
        tape = Arrays.copyOf(tape, tape.length + 20);
        int at = tape.length - 20;
        for (int v : new int[] {a, b, c, d, e}) {
            for (int i = 3; i >= 0; i--) tape[at++] = (byte) (v >>> 8 * i);
        }
        return tape.length;
    }

    int voyage(int n) {
        if (n < 0 || n > tape.length) return no(2, -1);
        StringBuilder text = new StringBuilder();
        for (int i = 0; i < n; i++) text.append((char) (tape[i] & 255));
        tape = new byte[0];
        Walk w = new Walk();
        w.tokens = tokens(text.toString());
        try {
            w.all();
        } catch (Fault f) {
            fault = f.number;
            place = f.place;
            return no(4, -1);
        }
        fault = 0;
        story = w.s;
        now = told();
        undo.clear();
        images.clear();
        return yes(story.watches.size());
    }

    int fault() { return fault; }

    int where() { return trouble == 4 ? place : -1; }

    // ---- refusing

    private int no(int why, int answer) {
        trouble = why;
        return answer;
    }

    private int yes(int answer) {
        trouble = 0;
        return answer;
    }

    private int all() { return story == null ? 0 : story.watches.size(); }

    private boolean isWatch(int k) { return k >= 0 && k < all(); }

    // ---- what is

    private State told() {
        State s = new State();
        int n = story.watches.size();
        s.boys = new int[n];
        s.courses = new int[n];
        s.attended = new boolean[n];
        for (int k = 0; k < n; k++) {
            s.boys[k] = story.watches.get(k)[0];
            s.courses[k] = story.watches.get(k)[2];
        }
        return s;
    }

    private boolean looks(State s, int k, int g) {
        return s.attended[k] || g % story.officers.get(story.watches.get(k)[1])[0] == 0;
    }

    private int early(State s, int set, int k, int g) {
        int b = s.boys[k];
        int early = story.boys.get(b)[1];
        for (int i = 0; i < story.unsure.size(); i++) {
            if ((set & 1 << i) != 0 && story.unsure.get(i)[0] == b) early = story.unsure.get(i)[1];
        }
        return switch (story.boys.get(b)[0]) {
            case 0 -> 0;
            case 1 -> looks(s, k, g) ? 0 : early;
            default -> looks(s, k, g) ? early / 2 : early;
        };
    }

    private int[] stolenOf(State s, int set) {
        int[] lost = new int[all()];
        for (int k = 0; k < all(); k++) for (int g = 1; g <= 8; g++) lost[k] += early(s, set, k, g);
        return lost;
    }

    private int total(State s) { return Arrays.stream(stolenOf(s, 0)).sum(); }

    /** East, north, thought east, thought north after each number of watches. */
    private int[][] track(State s, int[] lost, int unseen) {
        int[][] at = new int[all() + 1][];
        at[0] = new int[] {story.east * 100 + 50, story.north * 100 + 50,
            story.east * 100 + 50, story.north * 100 + 50};
        int[] dx = {0, 1, 0, -1};
        int[] dy = {1, 0, -1, 0};
        for (int k = 0; k < all(); k++) {
            int[] p = at[k].clone();
            int v = story.watches.get(k)[3];
            p[0] += dx[s.courses[k]] * (240 - lost[k]) * v;
            p[1] += dy[s.courses[k]] * (240 - lost[k]) * v;
            p[2] += dx[s.courses[k]] * 240 * v;
            p[3] += dy[s.courses[k]] * 240 * v;
            for (int i = 0; i < story.noons.size(); i++) {
                if (story.noons.get(i)[0] == k + 1 && (unseen & 1 << i) == 0) p[3] = p[1];
            }
            at[k + 1] = p;
        }
        return at;
    }

    private int[][] track(State s, int set) { return track(s, stolenOf(s, set), 0); }

    private static int sq(int e, int n) {
        return 1000 * (Math.floorDiv(e, 100) + 300) + Math.floorDiv(n, 100) + 300;
    }

    private static int apart(int[] p) { return Math.abs(p[0] - p[2]) + Math.abs(p[1] - p[3]); }

    private int strike(int[][] at, int from) {
        for (int n = 0; n < at.length; n++) {
            for (int[] o : story.shoals) {
                if (sq(at[n][from], at[n][from + 1]) == sq(o[0] * 100, o[1] * 100)) return n;
            }
        }
        return -2;
    }

    private int sets() { return 1 << story.unsure.size(); }

    // ---- now

    int watch(int k, int what) {
        if (!isWatch(k) || what < 0 || what > 5) return no(1, -1);
        int bits = 0;
        for (int g = 1; g <= 8; g++) if (looks(now, k, g)) bits += 1 << (g - 1);
        int[] w = story.watches.get(k);
        return yes(new int[] {now.boys[k], w[1], now.courses[k], w[3], now.attended[k] ? 1 : 0, bits}[what]);
    }

    private int stoleOf(int b) {
        int sum = 0;
        for (int k = 0; k < all(); k++) if (now.boys[k] == b) sum += stolenOf(now, 0)[k];
        return sum;
    }

    int boy(int b, int what) {
        if (story == null || b < 0 || b >= story.boys.size() || what < 0 || what > 3) return no(1, -1);
        int bits = 0;
        for (int k = 0; k < all(); k++) if (now.boys[k] == b) bits |= 1 << k;
        return yes(new int[] {story.boys.get(b)[0], story.boys.get(b)[1], bits, stoleOf(b)}[what]);
    }

    int officer(int f, int what) {
        if (story == null || f < 0 || f >= story.officers.size() || what < 0 || what > 1) return no(1, -1);
        int bits = 0;
        for (int k = 0; k < all(); k++) if (story.watches.get(k)[1] == f) bits |= 1 << k;
        return yes(what == 0 ? story.officers.get(f)[0] : bits);
    }

    int glass(int k, int g) {
        if (!isWatch(k)) return no(1, -1);
        if (g < 1 || g > 8) return no(2, -1);
        return yes(early(now, 0, k, g));
    }

    int stolen(int k) { return isWatch(k) ? yes(stolenOf(now, 0)[k]) : no(1, -1); }

    int stolenBy(int n) {
        if (story == null) return no(1, -1);
        if (n < 0 || n > all()) return no(2, -1);
        return yes(Arrays.stream(stolenOf(now, 0), 0, n).sum());
    }

    int thief() {
        if (story == null) return no(1, -1);
        int best = 0;
        for (int b = 0; b < story.boys.size(); b++) if (stoleOf(b) > stoleOf(best)) best = b;
        return yes(best);
    }

    int lostWatch() {
        if (story == null) return no(1, -1);
        for (int k = 0; k < all(); k++) if (Arrays.stream(stolenOf(now, 0), 0, k + 1).sum() >= 240) return yes(k);
        return yes(-2);
    }

    // ---- where it is

    private int whyAfter(int n) { return story == null ? 1 : n < 0 || n > all() ? 2 : 0; }

    int at(int n, boolean north) {
        if (whyAfter(n) != 0) return no(whyAfter(n), -1000000);
        return yes(track(now, 0)[n][north ? 1 : 0]);
    }

    int thought(int n, boolean north) {
        if (whyAfter(n) != 0) return no(whyAfter(n), -1000000);
        return yes(track(now, 0)[n][north ? 3 : 2]);
    }

    int error(int n) {
        if (whyAfter(n) != 0) return no(whyAfter(n), -1);
        return yes(apart(track(now, 0)[n]));
    }

    int worst() {
        if (story == null) return no(1, -1);
        int[][] t = track(now, 0);
        int best = 0;
        for (int n = 0; n <= all(); n++) if (apart(t[n]) > apart(t[best])) best = n;
        return yes(best);
    }

    int square(int n) {
        if (whyAfter(n) != 0) return no(whyAfter(n), -1);
        int[] p = track(now, 0)[n];
        return yes(sq(p[0], p[1]));
    }

    int squareThought(int n) {
        if (whyAfter(n) != 0) return no(whyAfter(n), -1);
        int[] p = track(now, 0)[n];
        return yes(sq(p[2], p[3]));
    }

    int strikes() { return story == null ? no(1, -1) : yes(strike(track(now, 0), 0)); }

    int feared() { return story == null ? no(1, -1) : yes(strike(track(now, 0), 2)); }

    int canBe(int n) {
        if (whyAfter(n) != 0) return no(whyAfter(n), -1);
        Set<Integer> at = new HashSet<>();
        for (int set = 0; set < sets(); set++) {
            int[] p = track(now, set)[n];
            at.add(sq(p[0], p[1]));
        }
        return yes(at.size());
    }

    private int perilsOf(State s) {
        int count = 0;
        for (int set = 0; set < sets(); set++) if (strike(track(s, set), 0) != -2) count++;
        return count;
    }

    int perils() { return story == null ? no(1, -1) : yes(perilsOf(now)); }

    // ---- looks, courses

    private State with(int watches) {
        State s = now.copy();
        for (int k = 0; k < all(); k++) s.attended[k] |= (watches >> k & 1) != 0;
        return s;
    }

    int attendFor(int minutes) {
        if (story == null) return no(1, -1);
        if (minutes < 0 || minutes > 999) return no(2, -1);
        int best = -2;
        int[] is = stolenOf(now, 0);
        int[] would = stolenOf(with(-1), 0);
        for (int bits = 0; bits < 1 << all(); bits++) {
            int sum = 0;
            for (int k = 0; k < all(); k++) sum += (bits >> k & 1) != 0 ? would[k] : is[k];
            boolean fewer = best == -2 || Integer.bitCount(bits) < Integer.bitCount(best);
            if (sum <= minutes && fewer) best = bits;
        }
        return yes(best);
    }

    int stolenIf(int watches) {
        if (story == null) return no(1, -1);
        if (watches < 0 || watches >= 1 << all()) return no(2, -1);
        return yes(total(with(watches)));
    }

    int lookFirst() {
        if (story == null) return no(1, -1);
        int best = 0;
        for (int k = 0; k < all(); k++) if (total(with(1 << k)) < total(with(1 << best))) best = k;
        return yes(best);
    }

    private State steered(int k, int c) {
        State s = now.copy();
        s.courses[k] = c;
        return s;
    }

    int change() {
        if (story == null) return no(1, -1);
        for (int k = 0; k < all(); k++) {
            for (int c = 0; c < 4; c++) if (perilsOf(steered(k, c)) == 0) return yes(10 * k + c);
        }
        return yes(-2);
    }

    int strikesIf(int k, int course) {
        if (!isWatch(k)) return no(1, -1);
        if (course < 0 || course > 3) return no(2, -1);
        return yes(strike(track(steered(k, course), 0), 0));
    }

    int relief(int k) {
        if (!isWatch(k)) return no(1, -1);
        int best = -1;
        int least = 99999;
        for (int b = 0; b < story.boys.size(); b++) {
            State s = now.copy();
            s.boys[k] = b;
            if (stolenOf(s, 0)[k] < least) {
                least = stolenOf(s, 0)[k];
                best = b;
            }
        }
        return yes(best);
    }

    // ---- unsure boys

    private int misfit(int set) {
        for (int i = 0; i < story.found.size(); i++) {
            int[] o = story.found.get(i);
            int[] p = track(told(), set)[o[0]];
            if (sq(p[0], p[1]) != sq(o[1] * 100, o[2] * 100)) return i;
        }
        return -2;
    }

    private List<Integer> fitting() {
        List<Integer> list = new ArrayList<>();
        for (int set = 0; set < sets(); set++) if (misfit(set) == -2) list.add(set);
        return list;
    }

    int fits() { return story == null ? no(1, -1) : yes(fitting().size()); }

    int fitAt(int i) {
        if (story == null || i < 0 || i >= fitting().size()) return no(1, -1);
        return yes(fitting().get(i));
    }

    int could() {
        if (story == null) return no(1, -1);
        int bits = 0;
        for (int set : fitting()) bits |= set;
        return yes(bits);
    }

    int surely() {
        if (story == null) return no(1, -1);
        int bits = -1;
        for (int set : fitting()) bits &= set;
        return yes(fitting().isEmpty() ? 0 : bits);
    }

    private int left(int n) {
        Map<Integer, Integer> by = new HashMap<>();
        for (int set : fitting()) {
            int[] p = track(told(), set)[n];
            by.merge(sq(p[0], p[1]), 1, Integer::sum);
        }
        return by.values().stream().max(Integer::compare).orElse(-2);
    }

    private int fixOf() {
        int best = 0;
        for (int n = 0; n <= all(); n++) if (left(n) < left(best)) best = n;
        return best;
    }

    int fix() {
        if (story == null) return no(1, -1);
        return yes(fitting().isEmpty() ? -2 : fixOf());
    }

    int fixLeaves() { return story == null ? no(1, -1) : yes(left(fixOf())); }

    int judge() { return story == null ? no(1, -1) : yes(misfit(0)); }

    // ---- noons by chance

    private BigInteger[] sum(int n, int much) {
        BigInteger up = BigInteger.ZERO;
        BigInteger low = BigInteger.valueOf(100).pow(story.noons.size());
        for (int unseen = 0; unseen < 1 << story.noons.size(); unseen++) {
            BigInteger weight = BigInteger.ONE;
            for (int i = 0; i < story.noons.size(); i++) {
                weight = weight.multiply(BigInteger.valueOf((unseen >> i & 1) != 0 ? story.clouds : 100 - story.clouds));
            }
            int apart = apart(track(now, stolenOf(now, 0), unseen)[n]);
            up = up.add(weight.multiply(BigInteger.valueOf(much < 0 ? apart : apart <= much ? 1 : 0)));
        }
        BigInteger g = up.gcd(low);
        return new BigInteger[] {up.divide(g), low.divide(g)};
    }

    long odds(int n, int much, boolean lower) {
        if (story == null) return no(1, -1);
        if (whyAfter(n) != 0 || much < 0 || much > 30000) return no(2, -1);
        yes(0);
        return sum(n, much)[lower ? 1 : 0].longValueExact();
    }

    long mean(int n, boolean lower) {
        if (whyAfter(n) != 0) return no(whyAfter(n), -1);
        yes(0);
        return sum(n, -1)[lower ? 1 : 0].longValueExact();
    }

    int dearest() {
        if (story == null) return no(1, -1);
        int best = -2;
        int most = 0;
        int all = apart(track(now, 0)[all()]);
        for (int i = 0; i < story.noons.size(); i++) {
            int more = apart(track(now, stolenOf(now, 0), 1 << i)[all()]) - all;
            if (more > most) {
                most = more;
                best = i;
            }
        }
        return yes(best);
    }

    // ---- boys among each other

    private static int[] share(int port, boolean one, boolean other) {
        if (one && other) return new int[] {3 - port, 3 - port};
        if (one) return new int[] {2, -1};
        if (other) return new int[] {-1, 2};
        return new int[] {1, 1};
    }

    private int whyPort(int port) { return story == null ? 1 : port < 0 || port > 9 ? 2 : 0; }

    int steals(int port, boolean one, boolean other, boolean ofOther) {
        if (whyPort(port) != 0) return no(whyPort(port), -100);
        return yes(share(port, one, other)[ofOther ? 1 : 0]);
    }

    private List<Integer> restsOf(int port) {
        List<Integer> list = new ArrayList<>();
        for (boolean one : new boolean[] {false, true}) {
            for (boolean other : new boolean[] {false, true}) {
                boolean better = share(port, !one, other)[0] > share(port, one, other)[0]
                    || share(port, one, !other)[1] > share(port, one, other)[1];
                if (!better) list.add((one ? 10 : 0) + (other ? 1 : 0));
            }
        }
        return list;
    }

    int rests(int port) {
        if (whyPort(port) != 0) return no(whyPort(port), -1);
        return yes(restsOf(port).size());
    }

    int rest(int port) {
        if (whyPort(port) != 0) return no(whyPort(port), -1);
        return yes(restsOf(port).isEmpty() ? -2 : restsOf(port).get(0));
    }

    // ---- idle boys by draws

    private long seed;

    private int[] drawn() {
        int[] lost = new int[all()];
        for (int k = 0; k < all(); k++) {
            for (int g = 1; g <= 8; g++) {
                if (early(now, 0, k, g) == 0) continue;
                seed = (75 * seed + 74) % 65537;
                if (seed % 100 >= story.idle) lost[k] += early(now, 0, k, g);
            }
        }
        return lost;
    }

    private int whyDrawn(int by, int n, int most) {
        return story == null ? 1 : by < 0 || by > 65536 || n < 0 || n > most ? 2 : 0;
    }

    int idled(int by, int n) {
        if (whyDrawn(by, n, all()) != 0) return no(whyDrawn(by, n, all()), -1);
        seed = by;
        return yes(Arrays.stream(drawn(), 0, n).sum());
    }

    int squareBy(int by, int n) {
        if (whyDrawn(by, n, all()) != 0) return no(whyDrawn(by, n, all()), -1);
        seed = by;
        int[] p = track(now, drawn(), 0)[n];
        return yes(sq(p[0], p[1]));
    }

    int wrecks(int by, int n) {
        if (whyDrawn(by, n, 20) != 0) return no(whyDrawn(by, n, 20), -1);
        seed = by;
        int count = 0;
        for (int i = 0; i < n; i++) if (strike(track(now, drawn(), 0), 0) != -2) count++;
        return yes(count);
    }

    // ---- acts

    private void act() {
        undo.add(now.copy());
        if (undo.size() > 16) undo.remove(0);
    }

    int attend(int k) {
        if (!isWatch(k)) return no(1, -1);
        act();
        now.attended[k] = !now.attended[k];
        return yes(now.attended[k] ? 1 : 0);
    }

    boolean steer(int k, int course) {
        if (!isWatch(k)) return no(1, 0) == 1;
        if (course < 0 || course > 3) return no(2, 0) == 1;
        if (now.courses[k] == course) return no(5, 0) == 1;
        act();
        now.courses[k] = course;
        return yes(1) == 1;
    }

    int relieve(int k, int b) {
        if (!isWatch(k) || b < 0 || b >= story.boys.size()) return no(1, -1);
        if (now.boys[k] == b) return no(5, -1);
        act();
        now.boys[k] = b;
        return yes(stolenOf(now, 0)[k]);
    }

    boolean undo() {
        if (undo.isEmpty()) return no(6, 0) == 1;
        now = undo.remove(undo.size() - 1);
        return yes(1) == 1;
    }

    int image() {
        if (story == null) return no(1, -1);
        if (images.size() == 3) return no(3, -1);
        images.add(now.copy());
        return yes(images.size() - 1);
    }

    boolean back(int image) {
        if (image < 0 || image >= images.size()) return no(1, 0) == 1;
        now = images.get(image).copy();
        undo.clear();
        return yes(1) == 1;
    }

    // ---- what is told

    int led(int i) {
        List<Integer> list = new ArrayList<>();
        for (int k = 0; k < all(); k++) if (stolenOf(now, 0)[k] == 0) list.add(k);
        if (i < 0 || i >= list.size()) throw new NoSuchElementException();
        return list.get(i);
    }

    int size(int what) {
        if (what < 0 || what > 11) return -1;
        if (what == 11) return tape.length;
        if (story == null) return 0;
        return new int[] {story.clouds, story.idle, story.boys.size(), story.officers.size(), all(),
            story.noons.size(), story.shoals.size(), story.unsure.size(), story.found.size(),
            undo.size(), images.size()}[what];
    }

    int trouble() { return trouble; }
}
