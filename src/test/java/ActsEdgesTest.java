/** Promises 46 to 54 at their bounds: sixteen acts and more, three images and one more, what a refusal leaves. */
public final class ActsEdgesTest {
    private static final Check CHECK = new Check();
    private static final GlassWatch NO_VOYAGE = new GlassWatch();
    private static final int MIN = Integer.MIN_VALUE;
    private static final int MAX = Integer.MAX_VALUE;
    private static final int[] NO_WATCH = {-1, 12, 13, 16, MIN, MAX};

    private static void attend() {
        CHECK.sentence(46, "ATTEND: 1 if it is attended then, else 0");
        GlassWatch x = Check.loaded(Texts.FULL);
        for (int k : new int[] {0, 11}) {
            for (int i = 1; i <= 4; i++) {
                CHECK.due("attend(" + k + ") " + i, x.attend(k), i % 2);
                CHECK.due("watch(" + k + ", 4)", x.watch(k, 4), i % 2);
            }
        }
        CHECK.due("eight acts", x.size(9), 8);
        CHECK.sentence(46, "NONE: 1");
        for (int k : NO_WATCH) CHECK.refused("attend(" + k + ")", x, x.attend(k), -1, 1);
        NO_VOYAGE.undo();
        CHECK.refused("attend(0) of none", NO_VOYAGE, NO_VOYAGE.attend(0), -1, 1);
        CHECK.due("still eight acts", x.size(9), 8);
    }

    private static int steer(GlassWatch x, int k, int course) {
        return x.steer(k, course) ? 1 : 0;
    }

    private static void steering() {
        CHECK.sentence(47, "STEER: true");
        GlassWatch x = Check.loaded(Texts.FULL);
        for (int k : new int[] {0, 11}) {
            for (int c : new int[] {3, 2, 1, 0}) {
                CHECK.due("steer(" + k + ", " + c + ")", steer(x, k, c), 1);
                CHECK.due("trouble()", x.trouble(), 0);
                CHECK.due("watch(" + k + ", 2)", x.watch(k, 2), c);
                CHECK.sentence(47, "5 (it is)");
                CHECK.refused("steer(" + k + ", " + c + ") again", x, steer(x, k, c), 0, 5);
                CHECK.sentence(47, "STEER: true");
            }
        }
        CHECK.due("eight acts", x.size(9), 8);
        CHECK.sentence(47, "false: 1; 2 (0 .. 3)");
        for (int c : new int[] {-1, 4, MIN, MAX}) CHECK.refused("steer(11, " + c + ")", x, steer(x, 11, c), 0, 2);
        for (int k : NO_WATCH) {
            CHECK.refused("steer(" + k + ", 0)", x, steer(x, k, 0), 0, 1);
            CHECK.refused("steer(" + k + ", 4), both wrong", x, steer(x, k, 4), 0, 1);
        }
        for (int c : new int[] {0, 3, 4}) CHECK.refused("steer(0, " + c + ") of none", NO_VOYAGE, steer(NO_VOYAGE, 0, c), 0, 1);
        CHECK.due("still eight acts", x.size(9), 8);
    }

    private static void relieve() {
        CHECK.sentence(48, "RELIEVE: what is STOLEN in it then");
        GlassWatch x = Check.loaded(Texts.FULL);
        int[] stolen = {160, 160, 0, 8, 0};
        for (int k : new int[] {0, 11}) {
            for (int b : new int[] {4, 3, 2, 1, 0}) {
                CHECK.due("relieve(" + k + ", " + b + ")", x.relieve(k, b), stolen[b]);
                CHECK.due("trouble()", x.trouble(), 0);
                CHECK.due("watch(" + k + ", 0)", x.watch(k, 0), b);
                CHECK.sentence(48, "5 (it is his)");
                CHECK.refused("relieve(" + k + ", " + b + ") again", x, x.relieve(k, b), -1, 5);
                CHECK.sentence(48, "RELIEVE: what is STOLEN in it then");
            }
        }
        CHECK.due("ten acts", x.size(9), 10);
        x.attend(0);
        CHECK.due("attended, a bold one", x.relieve(0, 3), 0);
        CHECK.due("attended, a bold one by 20", x.relieve(0, 0), 80);
        CHECK.sentence(48, "NONE: 1 (no watch, no boy)");
        for (int b : new int[] {-1, 5, MIN, MAX}) CHECK.refused("relieve(11, " + b + ")", x, x.relieve(11, b), -1, 1);
        for (int k : NO_WATCH) {
            CHECK.refused("relieve(" + k + ", 0)", x, x.relieve(k, 0), -1, 1);
            CHECK.refused("relieve(" + k + ", 5)", x, x.relieve(k, 5), -1, 1);
        }
        CHECK.refused("relieve(0, 0) of none", NO_VOYAGE, NO_VOYAGE.relieve(0, 0), -1, 1);
        CHECK.due("thirteen acts", x.size(9), 13);
    }

    /** The i-th act of a long row: each differs from what was ahead of it. */
    private static void act(GlassWatch x, int i) {
        int k = i * 5 % 12;
        switch (i % 3) {
            case 0: x.attend(k); break;
            case 1: x.steer(k, (x.watch(k, 2) + 1) % 4); break;
            default: x.relieve(k, (x.watch(k, 0) + 1) % 5); break;
        }
    }

    private static void undoing() {
        CHECK.sentence(49, "UNDO: the latest (16 are kept)");
        for (int acts : new int[] {0, 1, 15, 16, 17, 31, 32, 33, 48, 50}) {
            GlassWatch x = Check.loaded(Texts.FULL);
            String[] views = new String[acts + 1];
            views[0] = View.of(x);
            for (int i = 1; i <= acts; i++) {
                act(x, i);
                views[i] = View.of(x);
                CHECK.due("size(9) of " + i, x.size(9), Math.min(i, 16));
            }
            int kept = Math.min(acts, 16);
            for (int i = 1; i <= kept; i++) {
                CHECK.due("undo()", x.undo(), true);
                CHECK.due("trouble()", x.trouble(), 0);
                CHECK.due("size(9)", x.size(9), kept - i);
                String before = views[acts - i].replaceAll("sizes( \\d+){12}", "");
                CHECK.due("as ahead of act " + (acts - i + 1), View.of(x).replaceAll("sizes( \\d+){12}", "").equals(before), true);
            }
            CHECK.sentence(49, "false: 6");
            CHECK.refused("undo() of no more", x, x.undo() ? 1 : 0, 0, 6);
            CHECK.refused("undo() of no more, again", x, x.undo() ? 1 : 0, 0, 6);
            CHECK.due("size(9)", x.size(9), 0);
            CHECK.sentence(49, "UNDO: the latest (16 are kept)");
        }
        // Acts and undoings by turns, round the sixteen more than once.
        GlassWatch x = Check.loaded(Texts.FULL);
        x.steer(0, 2);
        for (int i = 0; i < 40; i++) {
            x.steer(0, 1);
            x.steer(0, 3);
            CHECK.due("undo()", x.undo(), true);
            CHECK.due("watch(0, 2)", x.watch(0, 2), 1);
            CHECK.due("undo()", x.undo(), true);
            CHECK.due("watch(0, 2)", x.watch(0, 2), 2);
            CHECK.due("size(9)", x.size(9), 1);
        }
        CHECK.sentence(49, "a refused act can't be undone, nor can asking");
        x.steer(0, 2);
        x.attend(12);
        x.relieve(0, 0);
        x.change();
        x.attendFor(0);
        x.relief(0);
        x.strikesIf(0, 3);
        CHECK.due("size(9)", x.size(9), 1);
        CHECK.due("undo()", x.undo(), true);
        CHECK.due("watch(0, 2)", x.watch(0, 2), 0);
        CHECK.sentence(49, "false: 6, without a VOYAGE");
        CHECK.refused("undo() of none", NO_VOYAGE, NO_VOYAGE.undo() ? 1 : 0, 0, 6);
    }

    private static void images() {
        CHECK.sentence(50, "An IMAGE: its number. IMAGES: up to 3. NONE: 3");
        GlassWatch x = Check.loaded(Texts.FULL);
        String[] views = new String[3];
        for (int i = 0; i < 3; i++) {
            act(x, 3 * i);
            act(x, 3 * i + 1);
            act(x, 3 * i + 2);
            CHECK.due("image()", x.image(), i);
            CHECK.due("trouble()", x.trouble(), 0);
            CHECK.due("size(10)", x.size(10), i + 1);
            views[i] = state(x);
        }
        for (int i = 0; i < 3; i++) CHECK.refused("image() of a fourth", x, x.image(), -1, 3);
        CHECK.due("size(10) stays", x.size(10), 3);
        CHECK.due("acts stay", x.size(9), 9);
        CHECK.sentence(51, "All is as by an IMAGE (all IMAGES stay)");
        for (int i : new int[] {0, 2, 1, 1, 0, 2}) {
            act(x, i);
            CHECK.due("back(" + i + ")", x.back(i), true);
            CHECK.due("trouble()", x.trouble(), 0);
            CHECK.due("as by image " + i, state(x).equals(views[i]), true);
            CHECK.due("size(10)", x.size(10), 3);
            CHECK.sentence(51, "gone back to one, nothing can be undone");
            CHECK.due("size(9)", x.size(9), 0);
            CHECK.refused("undo()", x, x.undo() ? 1 : 0, 0, 6);
            CHECK.sentence(51, "All is as by an IMAGE (all IMAGES stay)");
        }
        CHECK.refused("image() behind back()", x, x.image(), -1, 3);
        x.steer(0, (x.watch(0, 2) + 1) % 4);
        CHECK.due("an act behind back() can be undone", x.undo(), true);
        CHECK.due("as by image 2", state(x).equals(views[2]), true);
        CHECK.refused("and no more", x, x.undo() ? 1 : 0, 0, 6);
        CHECK.sentence(51, "false: 1");
        x.attend(0);
        String before = View.of(x);
        for (int i : new int[] {-1, 3, 4, MIN, MAX}) CHECK.refused("back(" + i + ")", x, x.back(i) ? 1 : 0, 0, 1);
        CHECK.due("all stays", View.of(x).equals(before), true);
        GlassWatch one = Check.loaded(Texts.FOUR);
        CHECK.refused("back(0) of no image", one, one.back(0) ? 1 : 0, 0, 1);
        one.image();
        CHECK.due("back(0)", one.back(0), true);
        CHECK.refused("back(1) of one", one, one.back(1) ? 1 : 0, 0, 1);
        CHECK.sentence(50, "NONE: 1 (no VOYAGE)");
        NO_VOYAGE.undo();
        CHECK.refused("image() of none", NO_VOYAGE, NO_VOYAGE.image(), -1, 1);
        NO_VOYAGE.undo();
        CHECK.refused("back(0) of none", NO_VOYAGE, NO_VOYAGE.back(0) ? 1 : 0, 0, 1);
    }

    private static String state(GlassWatch x) {
        return View.of(x).replaceAll("sizes( \\d+){12}", "");
    }

    private static void led() {
        CHECK.sentence(52, "The i-th watch, by numbers, in which nothing is STOLEN");
        GlassWatch honest = Check.loaded(Texts.WEST + ";watch b f west speed 9".repeat(11));
        for (int i = 0; i < 12; i++) CHECK.due("led(" + i + ")", honest.led(i), i);
        GlassWatch x = Check.loaded(Texts.FULL);
        x.relieve(11, 2);
        x.relieve(3, 4);
        CHECK.due("led(0)", x.led(0), 3);
        CHECK.due("led(1)", x.led(1), 11);
        CHECK.sentence(52, "NoSuchElementException if there is none such");
        for (int i : new int[] {12, 13, -1, MIN, MAX}) CHECK.throwsNone("led(" + i + ")", honest, i);
        for (int i : new int[] {2, 3, 11, -1, MIN, MAX}) CHECK.throwsNone("led(" + i + ")", x, i);
        for (int i : new int[] {0, -1, 1}) CHECK.throwsNone("led(" + i + ") of none", NO_VOYAGE, i);
        CHECK.throwsNone("led(0), all stolen from", Check.loaded(Texts.FULL), 0);
        CHECK.sentence(52, "it tells no number");
        x.undo();
        x.glass(0, 0);
        CHECK.throwsNone("led(9)", x, 9);
        CHECK.due("trouble() stays", x.trouble(), 2);
        CHECK.due("led(0)", x.led(0), 11);
        CHECK.due("trouble() stays", x.trouble(), 2);
    }

    private static void sizes() {
        CHECK.sentence(53, "NONE for others");
        GlassWatch x = Check.loaded(Texts.FULL);
        for (int what : new int[] {-1, 12, 13, MIN, MAX}) {
            CHECK.due("size(" + what + ")", x.size(what), -1);
            CHECK.due("size(" + what + ") of none", NO_VOYAGE.size(what), -1);
        }
        CHECK.sentence(53, "0 for what there isn't");
        for (int what = 0; what < 12; what++) CHECK.due("size(" + what + ") of none", NO_VOYAGE.size(what), 0);
        int[] least = {0, 0, 1, 1, 1, 0, 0, 0, 0, 0, 0, 0};
        GlassWatch west = Check.loaded(Texts.WEST);
        for (int what = 0; what < 12; what++) CHECK.due("size(" + what + ") of least", west.size(what), least[what]);
        CHECK.sentence(53, "of most");
        for (int i = 0; i < 20; i++) x.attend(0);
        for (int i = 0; i < 5; i++) x.image();
        for (int i = 0; i < 50; i++) x.feed(0, 0, 0, 0, 0);
        int[] most = {100, 100, 5, 4, 12, 4, 6, 4, 3, 16, 3, 900};
        for (int what = 0; what < 12; what++) CHECK.due("size(" + what + ") of most", x.size(what), most[what]);
        CHECK.sentence(53, "bytes of THE TAPE, without a VOYAGE");
        GlassWatch none = new GlassWatch();
        none.feed(0, 0, 0, 0, 0);
        CHECK.due("size(11)", none.size(11), 20);
    }

    private static void troubles() {
        CHECK.sentence(54, "TROUBLE of the latest call that may be refused");
        GlassWatch x = new GlassWatch();
        CHECK.due("none yet", x.trouble(), 0);
        x.strikes();
        CHECK.due("1 there is none such", x.trouble(), 1);
        x.voyage(-1);
        CHECK.due("2 a number", x.trouble(), 2);
        x.voyage(0);
        CHECK.due("4 a FAULT", x.trouble(), 4);
        x.undo();
        CHECK.due("6 there is none", x.trouble(), 6);
        Check.load(x, Texts.FOUR);
        CHECK.due("0 it wasn't", x.trouble(), 0);
        for (int i = 0; i < 4; i++) x.image();
        CHECK.due("3 no room", x.trouble(), 3);
        x.relieve(0, 0);
        CHECK.due("5 not so", x.trouble(), 5);
        for (int i = 0; i < 3; i++) {
            x.trouble();
            x.where();
            x.fault();
            x.size(i);
            x.size(99);
            x.feed(0, 0, 0, 0, 0);
            View.led(x, i);
        }
        CHECK.due("calls without numbers leave it", x.trouble(), 5);
        x.judge();
        CHECK.due("0 it wasn't", x.trouble(), 0);
        CHECK.sentence(54, "an answer of -1 or -2 that is no refusal");
        CHECK.due("steals", x.steals(0, false, true, false), -1);
        CHECK.due("trouble()", x.trouble(), 0);
        x.stolen(9);
        CHECK.due("strikes()", x.strikes(), -2);
        CHECK.due("trouble()", x.trouble(), 0);
        x.stolen(9);
        CHECK.due("attendFor(0)", x.attendFor(0), -2);
        CHECK.due("trouble()", x.trouble(), 0);
    }

    public static void main(String[] args) {
        attend();
        steering();
        relieve();
        undoing();
        images();
        led();
        sizes();
        troubles();
        CHECK.end();
    }
}
