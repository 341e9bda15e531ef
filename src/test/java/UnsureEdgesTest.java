/** Promises 30 to 36 at their bounds: no sets, all sets, one set; places that tell nothing and that tell all. */
public final class UnsureEdgesTest {
    private static final Check CHECK = new Check();
    private static final GlassWatch NO_VOYAGE = new GlassWatch();
    private static final int MIN = Integer.MIN_VALUE;
    private static final int MAX = Integer.MAX_VALUE;

    /** After four watches it is at 11770 less 112 times the set's bits: sixteen SQUARES. */
    private static final String FOUR = "voyage from 50 50 clouds 0 idle 0;boy a sly early 0;boy b sly early 0;"
        + "boy c sly early 0;boy d sly early 0;officer f every 9;watch a f north speed 7;watch b f north speed 7;"
        + "watch c f north speed 7;watch d f north speed 7;unsure a 2;unsure b 4;unsure c 8;unsure d 16";

    private static void sets(String text, int[] sets, int could, int surely) {
        GlassWatch x = Check.loaded(text);
        String of = " of " + text.substring(text.lastIndexOf(';') + 1);
        CHECK.sentence(30, "FITS: how many");
        CHECK.due("fits()" + of, x.fits(), sets.length);
        CHECK.sentence(31, "The i-th, by bits of unsure boys as told. NONE: 1 (i, too)");
        for (int i = 0; i < sets.length; i++) {
            CHECK.due("fitAt(" + i + ")" + of, x.fitAt(i), sets[i]);
            CHECK.due("trouble()", x.trouble(), 0);
        }
        for (int i : new int[] {-1, sets.length, sets.length + 1, 16, 32, MIN, MAX}) {
            CHECK.refused("fitAt(" + i + ")" + of, x, x.fitAt(i), -1, 1);
        }
        CHECK.sentence(32, "Unsure boys in some, as bits");
        CHECK.due("could()" + of, x.could(), could);
        CHECK.sentence(33, "Unsure boys in all (0 without a set), as bits");
        CHECK.due("surely()" + of, x.surely(), surely);
        CHECK.due("trouble()", x.trouble(), 0);
    }

    private static void fix(String text, int fix, int leaves) {
        GlassWatch x = Check.loaded(text);
        String of = " of " + text.substring(text.lastIndexOf(';') + 1);
        CHECK.sentence(34, "at most fewest FITS are left, the first such; -2 no FITS");
        CHECK.due("fix()" + of, x.fix(), fix);
        CHECK.due("trouble()", x.trouble(), 0);
        CHECK.sentence(35, "How many are left at most then; -2 likewise");
        CHECK.due("fixLeaves()" + of, x.fixLeaves(), leaves);
        CHECK.due("trouble()", x.trouble(), 0);
    }

    private static int[] all(int n) {
        int[] sets = new int[n];
        for (int i = 0; i < n; i++) sets[i] = i;
        return sets;
    }

    private static void allOfThem() {
        sets(FOUR, all(16), 15, 0);
        sets(FOUR.replace(";unsure d 16", ""), all(8), 7, 0);
        sets(FOUR.replace(";unsure c 8;unsure d 16", ""), all(4), 3, 0);
        sets(FOUR.replace(";unsure b 4;unsure c 8;unsure d 16", ""), all(2), 1, 0);
        sets(FOUR.substring(0, FOUR.indexOf(";unsure")), all(1), 0, 0);
        sets(FOUR + ";found 0 at 50 50", all(16), 15, 0);
        fix(FOUR, 4, 1);
        fix(FOUR.replace(";unsure d 16", ""), 3, 1);
        fix(FOUR.replace(";unsure c 8;unsure d 16", ""), 2, 1);
        fix(FOUR.replace(";unsure b 4;unsure c 8;unsure d 16", ""), 1, 1);
        fix(FOUR.substring(0, FOUR.indexOf(";unsure")), 0, 1);
        fix(FOUR + ";found 0 at 50 50", 4, 1);
    }

    private static void oneOfThem() {
        for (int set = 0; set < 16; set++) {
            String found = FOUR + ";found 4 at 50 " + (11770 - 112 * set) / 100;
            sets(found, new int[] {set}, set, set);
            fix(found, 0, 1);
            CHECK.sentence(36, "isn't so by boys as told");
            CHECK.due("judge() by set " + set, Check.loaded(found).judge(), set == 0 ? -2 : 0);
        }
        sets(FOUR + ";found 1 at 50 66", new int[] {1, 3, 5, 7, 9, 11, 13, 15}, 15, 1);
        sets(FOUR + ";found 1 at 50 67", new int[] {0, 2, 4, 6, 8, 10, 12, 14}, 14, 0);
        fix(FOUR + ";found 1 at 50 66", 4, 1);
        sets(FOUR + ";found 1 at 50 66;found 2 at 50 80;found 3 at 50 93", new int[] {7, 15}, 15, 7);
        fix(FOUR + ";found 1 at 50 66;found 2 at 50 80;found 3 at 50 93", 4, 1);
        sets(FOUR + ";found 3 at 50 93;found 0 at 50 50;found 4 at 50 100", new int[] {15}, 15, 15);
    }

    private static void noneOfThem() {
        String[] nowhere = {";found 0 at 50 51", ";found 0 at 51 50", ";found 4 at 50 99", ";found 4 at 50 118",
            ";found 4 at 49 117", ";found 1 at 50 66;found 4 at 50 117", ";found 0 at 50 50;found 1 at 50 67;found 2 at 1 1"};
        for (String found : nowhere) {
            sets(FOUR + found, new int[] {}, 0, 0);
            fix(FOUR + found, -2, -2);
        }
        String sure = Texts.WEST + ";found 1 at 0 0";
        sets(sure, new int[] {}, 0, 0);
        fix(sure, -2, -2);
        CHECK.sentence(36, "The first found one, as told");
        CHECK.due("judge() of one who isn't unsure", Check.loaded(sure).judge(), 0);
    }

    private static void likes() {
        // As early as told, or an honest one: by each set it is where it was.
        String same = Texts.one("sly", 5, 9, 9, ";unsure b 5");
        sets(same, all(2), 1, 0);
        fix(same, 0, 2);
        sets(same + ";found 1 at 5 23", all(2), 1, 0);
        sets(same + ";found 1 at 5 5", new int[] {}, 0, 0);
        fix(Texts.one("honest", 5, 9, 9, ";unsure b 20"), 0, 2);
        // 8 less is not another SQUARE, 160 less is.
        fix(Texts.one("sly", 0, 9, 1, ";unsure b 1"), 0, 2);
        fix(Texts.one("sly", 0, 9, 1, ";unsure b 20"), 1, 1);
        // Told apart behind the first watch, together again behind the second: the first place counts.
        fix(Texts.one("sly", 0, 9, 1, ";watch b f south speed 1;unsure b 20"), 1, 1);
        // Two alike: three SQUARES behind the second watch, but two sets in one; behind the first two and two.
        fix(FOUR.replace("unsure b 4", "unsure b 2").replace(";unsure c 8;unsure d 16", ""), 1, 2);
        CHECK.sentence(30, "nobody attending, all steered and kept as told");
        GlassWatch x = Check.loaded(FOUR + ";found 4 at 50 117");
        for (int k = 0; k < 4; k++) {
            x.attend(k);
            x.steer(k, 3);
            x.relieve(k, (k + 1) % 4);
        }
        CHECK.due("fits() behind acts", x.fits(), 1);
        CHECK.due("fitAt(0) behind acts", x.fitAt(0), 0);
        CHECK.sentence(34, "by the same");
        GlassWatch y = Check.loaded(FOUR);
        for (int k = 0; k < 4; k++) y.attend(k);
        CHECK.due("fix() behind acts", y.fix(), 4);
        CHECK.due("fixLeaves() behind acts", y.fixLeaves(), 1);
        CHECK.sentence(36, "by boys as told");
        CHECK.due("judge() behind acts", x.judge(), -2);
    }

    private static void askedInAnyOrder() {
        CHECK.sentence(35, "whatever was asked ahead");
        GlassWatch x = Check.loaded(FOUR + ";found 1 at 50 67");
        CHECK.due("canBe(4)", x.canBe(4), 16);
        CHECK.due("fixLeaves()", x.fixLeaves(), 1);
        CHECK.due("fix()", x.fix(), 4);
        GlassWatch still = Check.loaded(FOUR.replace("speed 7", "speed 0"));
        CHECK.due("canBe(4) lying still", still.canBe(4), 1);
        CHECK.due("fix() lying still", still.fix(), 0);
        CHECK.due("fixLeaves() lying still", still.fixLeaves(), 16);
        GlassWatch less = Check.loaded(FOUR.replace("speed 7", "speed 0").replace(";unsure d 16", ""));
        CHECK.due("canBe(4) lying still", less.canBe(4), 1);
        CHECK.due("fixLeaves() lying still", less.fixLeaves(), 8);
        CHECK.sentence(22, "whatever was asked ahead");
        CHECK.due("canBe(3)", x.canBe(3), 8);
        CHECK.due("canBe(0)", x.canBe(0), 1);
        CHECK.due("canBe(4)", x.canBe(4), 16);
    }

    private static void judge() {
        CHECK.sentence(36, "The first found one, as told, that isn't so; -2");
        CHECK.due("none is found", Check.loaded(FOUR).judge(), -2);
        CHECK.due("all are so", Check.loaded(FOUR + ";found 4 at 50 117;found 0 at 50 50;found 1 at 50 67").judge(), -2);
        CHECK.due("the last told", Check.loaded(FOUR + ";found 4 at 50 117;found 0 at 50 50;found 1 at 50 66").judge(), 2);
        CHECK.due("the second told, behind fewer watches the third",
            Check.loaded(FOUR + ";found 4 at 50 117;found 3 at 50 50;found 1 at 50 66").judge(), 1);
        CHECK.due("the first told", Check.loaded(FOUR + ";found 4 at 50 116;found 0 at 50 51").judge(), 0);
    }

    private static void refusals() {
        int[] promises = {30, 31, 32, 33, 34, 35, 36};
        for (int p : promises) {
            CHECK.sentence(p, "NONE: 1 (no VOYAGE)");
            NO_VOYAGE.undo();
            int got = switch (p) {
                case 30 -> NO_VOYAGE.fits();
                case 31 -> NO_VOYAGE.fitAt(0);
                case 32 -> NO_VOYAGE.could();
                case 33 -> NO_VOYAGE.surely();
                case 34 -> NO_VOYAGE.fix();
                case 35 -> NO_VOYAGE.fixLeaves();
                default -> NO_VOYAGE.judge();
            };
            CHECK.refused("a call", NO_VOYAGE, got, -1, 1);
        }
        CHECK.sentence(31, "NONE: 1 (i, too)");
        for (int i : new int[] {-1, 1, MIN, MAX}) CHECK.refused("fitAt(" + i + ") of none", NO_VOYAGE, NO_VOYAGE.fitAt(i), -1, 1);
    }

    public static void main(String[] args) {
        allOfThem();
        oneOfThem();
        noneOfThem();
        likes();
        askedInAnyOrder();
        judge();
        refusals();
        CHECK.end();
    }
}
