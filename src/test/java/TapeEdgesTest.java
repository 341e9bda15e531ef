/** Promises 1 to 5 at their bounds: the tape empty and full, lengths out of bounds, what a refusal leaves. */
public final class TapeEdgesTest {
    private static final Check CHECK = new Check();
    private static final int BLANKS = 0x20202020;
    private static final int MIN = Integer.MIN_VALUE;
    private static final int MAX = Integer.MAX_VALUE;
    private static final String READY = Texts.one("sly", 1, 1, 1, "");

    private static void noVoyage() {
        CHECK.sentence(1, "No VOYAGE");
        GlassWatch x = new GlassWatch();
        CHECK.due("trouble() ahead of all", x.trouble(), 0);
        CHECK.due("fault() ahead of all", x.fault(), 0);
        CHECK.due("where() ahead of all", x.where(), -1);
        for (int what = 0; what < 12; what++) CHECK.due("size(" + what + ")", x.size(what), 0);
        CHECK.refused("voyage(0)", x, x.voyage(0), -1, 4);
        CHECK.refused("thief() behind a fault", x, x.thief(), -1, 1);
    }

    private static void eachByteHasItsPlace() {
        CHECK.sentence(2, "Twenty bytes come behind THE TAPE, of each number the highest first");
        for (int place = 0; place < 20; place++) {
            for (int sign : new int[] {0, 33, 127, 128, 255}) {
                int[] five = {BLANKS, BLANKS, BLANKS, BLANKS, BLANKS};
                int shift = 24 - 8 * (place % 4);
                five[place / 4] = five[place / 4] & ~(255 << shift) | sign << shift;
                GlassWatch x = new GlassWatch();
                CHECK.due("feed", x.feed(five[0], five[1], five[2], five[3], five[4]), 20);
                x.voyage(20);
                CHECK.due("where() of " + sign, x.where(), place);
            }
        }
        GlassWatch x = new GlassWatch();
        x.feed(BLANKS, BLANKS, BLANKS, BLANKS, BLANKS);
        CHECK.due("the second feed", x.feed(BLANKS, BLANKS, BLANKS, BLANKS, -1), 40);
        x.voyage(40);
        CHECK.due("where() in the second feed", x.where(), 36);
    }

    private static GlassWatch withFeeds(int feeds) {
        GlassWatch x = new GlassWatch();
        Check.feed(x, READY);
        for (int i = x.size(11) / 20; i < feeds; i++) x.feed(BLANKS, BLANKS, BLANKS, BLANKS, BLANKS);
        return x;
    }

    private static void aFullTape() {
        CHECK.sentence(2, "NONE, and none comes, if there would be more than 900");
        GlassWatch x = withFeeds(44);
        CHECK.due("size(11)", x.size(11), 880);
        CHECK.due("the last feed there is room for", x.feed(BLANKS, BLANKS, BLANKS, BLANKS, BLANKS), 900);
        for (int i = 0; i < 3; i++) CHECK.due("one more", x.feed(0, -1, 0, -1, 0), -1);
        CHECK.due("size(11) stays", x.size(11), 900);
        CHECK.due("the bytes stay", x.voyage(900), 1);
        CHECK.sentence(2, "a refused feed tells no number");
        GlassWatch y = withFeeds(45);
        y.undo();
        y.feed(0, 0, 0, 0, 0);
        CHECK.due("trouble() stays", y.trouble(), 6);
        GlassWatch z = new GlassWatch();
        z.voyage(0);
        for (int i = 0; i < 46; i++) z.feed(0, 0, 0, 0, 0);
        CHECK.due("where() stays", z.where(), 0);
        CHECK.sentence(3, "it is empty then");
        CHECK.due("feed behind a voyage", x.feed(0, 0, 0, 0, 0), 20);
        GlassWatch again = withFeeds(45);
        for (int i = 0; i < 3; i++) {
            again.voyage(900);
            CHECK.due("size(11)", again.size(11), 0);
            for (int f = 1; f <= 45; f++) CHECK.due("feed once more", again.feed(0, 0, 0, 0, 0), 20 * f);
        }
    }

    private static void lengths() {
        CHECK.sentence(3, "NONE: 2 (THE TAPE stays)");
        GlassWatch none = new GlassWatch();
        for (int n : new int[] {-1, 1, 20, 900, 901, MIN, MAX}) {
            CHECK.refused("voyage(" + n + ") of an empty tape", none, none.voyage(n), -1, 2);
        }
        GlassWatch x = Check.loaded(Texts.FOUR);
        x.attend(1);
        x.image();
        int taped = Check.feed(x, READY);
        String before = View.of(x);
        for (int n : new int[] {-1, taped + 1, 900, 901, MIN, MAX}) {
            CHECK.refused("voyage(" + n + ")", x, x.voyage(n), -1, 2);
            CHECK.due("all stays", View.of(x).equals(before), true);
        }
        CHECK.due("voyage of the tape that stayed", x.voyage(taped), 1);
        GlassWatch full = withFeeds(45);
        CHECK.refused("voyage(901) of a full tape", full, full.voyage(901), -1, 2);
        CHECK.due("voyage(900) of a full tape", full.voyage(900), 1);
        CHECK.sentence(3, "The first n bytes of THE TAPE");
        for (int n = 0; n < READY.length(); n++) {
            GlassWatch y = new GlassWatch();
            Check.feed(y, READY);
            CHECK.refused("voyage(" + n + ") of less than a voyage", y, y.voyage(n), -1, 4);
            CHECK.due("the fault lies in them", y.where() <= n, true);
            CHECK.due("none is left", y.size(11), 0);
        }
        GlassWatch empty = new GlassWatch();
        CHECK.refused("voyage(0) of nothing", empty, empty.voyage(0), -1, 4);
        CHECK.due("fault()", empty.fault(), 1);
        CHECK.due("where()", empty.where(), 0);
    }

    private static void aVoyageBegins() {
        CHECK.sentence(3, "the VOYAGE from now on (nobody attending; nothing to undo, no IMAGES)");
        GlassWatch x = Check.loaded(Texts.FOUR);
        String told = View.undone(Check.loaded(Texts.FOUR));
        for (int k = 0; k < 4; k++) {
            x.attend(k);
            x.steer(k, (k + 2) % 4);
            x.relieve(k, (x.watch(k, 0) + 1) % 3);
        }
        for (int i = 0; i < 3; i++) x.image();
        CHECK.due("voyage", Check.load(x, Texts.FOUR), 4);
        CHECK.due("all is as told", View.of(x).equals(View.of(Check.loaded(Texts.FOUR))), true);
        CHECK.refused("undo()", x, x.undo() ? 1 : 0, 0, 6);
        for (int i = 0; i < 3; i++) CHECK.refused("back(" + i + ")", x, x.back(i) ? 1 : 0, 0, 1);
        CHECK.due("image() begins anew", x.image(), 0);
        CHECK.due("there is room for three", x.image() + x.image(), 3);
        CHECK.sentence(3, "of an earlier VOYAGE nothing is left");
        String stealing = Texts.one("sly", 20, 9, 1, ";watch b f north speed 1".repeat(11));
        String[] texts = {Texts.FULL, Texts.WEST, READY, Texts.FOUR, Texts.WEST, Texts.FULL, Texts.FULL, stealing, stealing,
            READY, READY};
        GlassWatch y = new GlassWatch();
        for (String text : texts) {
            Check.load(y, text);
            CHECK.due("as a new object's: " + text, View.of(y).equals(View.of(Check.loaded(text))), true);
        }
        // Parts of a text that had a fault are gone as well.
        for (String text : texts) {
            Check.load(y, Texts.FULL + ";found 2 at 0 0");
            Check.load(y, text);
            CHECK.due("behind a fault: " + text, View.of(y).equals(View.of(Check.loaded(text))), true);
        }
        CHECK.due("the voyage told twice", View.undone(Check.loaded(Texts.FOUR)).equals(told), true);
        CHECK.sentence(3, "how many watches");
        for (int n = 1; n <= 12; n++) {
            GlassWatch z = new GlassWatch();
            CHECK.due("voyage", Check.load(z, READY + ";watch b f north speed 1".repeat(n - 1)), n);
        }
    }

    private static void aFaultLeavesTheVoyage() {
        CHECK.sentence(3, "4 (the VOYAGE stays)");
        GlassWatch x = Check.loaded(Texts.FOUR);
        GlassWatch same = Check.loaded(Texts.FOUR);
        for (GlassWatch one : new GlassWatch[] {x, same}) {
            one.attend(2);
            one.image();
            one.relieve(0, 1);
            one.steer(3, 1);
        }
        String[] faults = {"", "x", Texts.FULL + ";", Texts.WEST + ";noon at 9", Texts.FULL + ";found 2 at 0 0"};
        for (String text : faults) {
            CHECK.refused(text, x, Check.load(x, text), -1, 4);
            x.feed(BLANKS, BLANKS, BLANKS, BLANKS, BLANKS);
            x.voyage(20);
        }
        Check.load(same, " ");
        CHECK.due("all stays", View.of(x).equals(View.of(same)), true);
        CHECK.due("its image stays", x.back(0) && same.back(0), true);
        CHECK.due("as it was", View.of(x).equals(View.of(same)), true);
        Check.load(x, "");
        GlassWatch y = Check.loaded(Texts.FOUR);
        y.attend(1);
        y.steer(0, 2);
        GlassWatch z = Check.loaded(Texts.FOUR);
        z.attend(1);
        z.steer(0, 2);
        Check.load(y, "boy");
        Check.load(z, "boy");
        CHECK.due("what can be undone stays", y.undo(), true);
        CHECK.due("and is undone", y.watch(0, 2), 0);
        CHECK.due("and the other", y.undo(), true);
        CHECK.due("and is undone", y.watch(1, 4), 0);
    }

    private static void theFaultOfTheLatest() {
        CHECK.sentence(4, "The FAULT of the latest voyage() not refused by 2");
        GlassWatch x = new GlassWatch();
        x.voyage(1);
        CHECK.due("fault() of one refused by 2 alone", x.fault(), 0);
        Check.load(x, "boy");
        CHECK.due("fault()", x.fault(), 6);
        for (int n : new int[] {-1, 1, MIN, MAX}) {
            x.voyage(n);
            CHECK.due("fault() behind voyage(" + n + ")", x.fault(), 6);
        }
        Check.load(x, "x");
        CHECK.due("fault() of the next", x.fault(), 1);
        x.strikes();
        x.undo();
        CHECK.due("fault() behind other refusals", x.fault(), 1);
        CHECK.sentence(4, "0 without one");
        Check.load(x, READY);
        CHECK.due("fault() of a voyage", x.fault(), 0);
        x.voyage(1);
        CHECK.due("fault() of a voyage, then a refusal by 2", x.fault(), 0);
    }

    private static void placesOfFaults() {
        CHECK.sentence(5, "Its place, if the latest call that may be refused was by 4");
        GlassWatch x = new GlassWatch();
        Check.load(x, "  x");
        CHECK.due("where()", x.where(), 2);
        CHECK.due("where() again", x.where(), 2);
        x.fault();
        x.trouble();
        x.size(12);
        x.feed(0, 0, 0, 0, 0);
        View.led(x, 0);
        CHECK.due("where() behind calls that can't be refused", x.where(), 2);
        GlassWatch place = new GlassWatch();
        place.voyage(0);
        CHECK.due("a place 0", place.where(), 0);
        GlassWatch last = new GlassWatch();
        Check.feed(last, " ".repeat(900));
        last.voyage(900);
        CHECK.due("a place 900", last.where(), 900);
        CHECK.sentence(5, "NONE else");
        x.undo();
        CHECK.due("where() behind a refusal by 6", x.where(), -1);
        Check.load(x, "x");
        x.voyage(MAX);
        CHECK.due("where() behind a refusal by 2", x.where(), -1);
        Check.load(x, READY);
        CHECK.due("where() of a voyage", x.where(), -1);
        Check.load(x, "x");
        x.thief();
        CHECK.due("where() behind a call that isn't refused", x.where(), -1);
        CHECK.due("though the fault stays", x.fault(), 1);
    }

    public static void main(String[] args) {
        noVoyage();
        eachByteHasItsPlace();
        aFullTape();
        lengths();
        aVoyageBegins();
        aFaultLeavesTheVoyage();
        theFaultOfTheLatest();
        placesOfFaults();
        CHECK.end();
    }
}
