/** Promises 14 to 23 at their bounds: edges of SQUARES, below 0, noons, shoals, sets of unsure boys. */
public final class PlaceEdgesTest {
    private static final Check CHECK = new Check();
    private static final GlassWatch NO_VOYAGE = new GlassWatch();
    private static final int MIN = Integer.MIN_VALUE;
    private static final int MAX = Integer.MAX_VALUE;

    /** Two watches by sly boys who are early by 7 times one and 8 times the other, at speed 1. */
    private static GlassWatch two(int from, int seven, int eight, String course, String more) {
        return Check.loaded("voyage from " + from + " " + from + " clouds 0 idle 0;boy a sly early " + seven
            + ";boy b sly early " + eight + ";officer e every 8;officer n every 9;watch a e " + course
            + " speed 1;watch b n " + course + " speed 1" + more);
    }

    private static GlassWatch from(int east, int north, String course, int speed, String more) {
        return Check.loaded("voyage from " + east + " " + north + " clouds 0 idle 0;boy b honest early 0;officer f every 1;"
            + "watch b f " + course + " speed " + speed + more);
    }

    private static void places() {
        CHECK.sentence(14, "At first it is in the middle of its SQUARE");
        for (int s : new int[] {0, 1, 100, 199}) {
            CHECK.due("at(0, false) from " + s, from(s, 7, "east", 1, "").at(0, false), 100 * s + 50);
            CHECK.due("at(0, true) from " + s, from(7, s, "east", 1, "").at(0, true), 100 * s + 50);
            CHECK.due("thought(0, false) from " + s, from(s, 7, "east", 1, "").thought(0, false), 100 * s + 50);
            CHECK.due("thought(0, true) from " + s, from(7, s, "east", 1, "").thought(0, true), 100 * s + 50);
        }
        CHECK.sentence(14, "on that watch's course");
        String[] courses = {"north", "east", "south", "west"};
        int[][] by = {{0, 240}, {240, 0}, {0, -240}, {-240, 0}};
        for (int c = 0; c < 4; c++) {
            GlassWatch x = from(9, 9, courses[c], 1, "");
            CHECK.due(courses[c] + ", east", x.at(1, false), 950 + by[c][0]);
            CHECK.due(courses[c] + ", north", x.at(1, true), 950 + by[c][1]);
            CHECK.due(courses[c] + ", thought east", x.thought(1, false), 950 + by[c][0]);
            CHECK.due(courses[c] + ", thought north", x.thought(1, true), 950 + by[c][1]);
        }
        CHECK.sentence(14, "true minutes times speed");
        for (int v = 0; v <= 9; v++) {
            GlassWatch x = Check.loaded(Texts.one("sly", 20, 9, v, ""));
            CHECK.due("at(1, true), the least minutes", x.at(1, true), 550 + 80 * v);
            CHECK.due("thought(1, true)", x.thought(1, true), 550 + 240 * v);
            CHECK.due("error(1)", x.error(1), 160 * v);
        }
        CHECK.sentence(14, "far out");
        String far = Texts.WEST.replace("from 0 0", "from 199 199") + ";watch b f west speed 9".repeat(11);
        CHECK.due("at(12, false), east", Check.loaded(far.replace("west", "east")).at(12, false), 45870);
        CHECK.due("at(12, true), north", Check.loaded(far.replace("west", "north")).at(12, true), 45870);
        String below = far.replace("from 199 199", "from 0 0");
        CHECK.due("at(12, false), west", Check.loaded(below).at(12, false), -25870);
        CHECK.due("at(12, true), south", Check.loaded(below.replace("west", "south")).at(12, true), -25870);
        CHECK.sentence(18, "far out");
        CHECK.due("square(12), east", Check.loaded(far.replace("west", "east")).square(12), 758499);
        CHECK.due("square(12), north", Check.loaded(far.replace("west", "north")).square(12), 499758);
        CHECK.due("square(12), west", Check.loaded(below).square(12), 41300);
        CHECK.due("square(12), south", Check.loaded(below.replace("west", "south")).square(12), 300041);
    }

    private static void refusals() {
        GlassWatch full = Check.loaded(Texts.FULL);
        for (int n : new int[] {-1, 13, MIN, MAX}) refuse(full, n, 2);
        for (int n : new int[] {-1, 0, 1, MIN, MAX}) refuse(NO_VOYAGE, n, 1);
        GlassWatch one = Check.loaded(Texts.WEST);
        refuse(one, 2, 2);
        one.at(1, true);
        CHECK.due("trouble() of the last", one.trouble(), 0);
        one.canBe(1);
        CHECK.due("trouble() of the last", one.trouble(), 0);
    }

    private static void refuse(GlassWatch x, int n, int why) {
        CHECK.sentence(14, "-1000000: 1 (no VOYAGE); 2");
        CHECK.refused("at(" + n + ", true)", x, x.at(n, true), -1000000, why);
        CHECK.refused("at(" + n + ", false)", x, x.at(n, false), -1000000, why);
        x.undo();
        CHECK.sentence(15, "-1000000: likewise");
        CHECK.refused("thought(" + n + ", true)", x, x.thought(n, true), -1000000, why);
        CHECK.refused("thought(" + n + ", false)", x, x.thought(n, false), -1000000, why);
        x.undo();
        CHECK.sentence(16, "NONE: 1 (no VOYAGE); 2");
        CHECK.refused("error(" + n + ")", x, x.error(n), -1, why);
        x.undo();
        CHECK.sentence(18, "NONE: 1 (no VOYAGE); 2");
        CHECK.refused("square(" + n + ")", x, x.square(n), -1, why);
        x.undo();
        CHECK.sentence(19, "NONE: likewise");
        CHECK.refused("squareThought(" + n + ")", x, x.squareThought(n), -1, why);
        x.undo();
        CHECK.sentence(22, "NONE: 1 (no VOYAGE); 2");
        CHECK.refused("canBe(" + n + ")", x, x.canBe(n), -1, why);
        x.undo();
    }

    private static void noVoyage() {
        CHECK.sentence(17, "NONE: 1 (no VOYAGE)");
        CHECK.refused("worst()", NO_VOYAGE, NO_VOYAGE.worst(), -1, 1);
        NO_VOYAGE.undo();
        CHECK.sentence(20, "NONE: 1 (no VOYAGE)");
        CHECK.refused("strikes()", NO_VOYAGE, NO_VOYAGE.strikes(), -1, 1);
        NO_VOYAGE.undo();
        CHECK.sentence(21, "NONE: 1 (no VOYAGE)");
        CHECK.refused("feared()", NO_VOYAGE, NO_VOYAGE.feared(), -1, 1);
        NO_VOYAGE.undo();
        CHECK.sentence(23, "NONE: 1 (no VOYAGE)");
        CHECK.refused("perils()", NO_VOYAGE, NO_VOYAGE.perils(), -1, 1);
    }

    private static void edgesOfSquares() {
        CHECK.sentence(18, "a SQUARE is where it is by 100, downwards, below 0 too");
        // 480 minutes less 230 are 250, less 229 are 251: to 0 and to -1.
        CHECK.due("west to 0", two(2, 10, 20, "west", "").at(2, false), 0);
        CHECK.due("square of 0", two(2, 10, 20, "west", "").square(2), 300302);
        CHECK.due("west to -1", two(2, 11, 19, "west", "").at(2, false), -1);
        CHECK.due("square of -1", two(2, 11, 19, "west", "").square(2), 299302);
        CHECK.due("south to 0", two(2, 10, 20, "south", "").square(2), 302300);
        CHECK.due("south to -1", two(2, 11, 19, "south", "").square(2), 302299);
        // From 150: to -100 and to -101.
        CHECK.due("west to -100", two(1, 10, 20, "west", "").square(2), 299301);
        CHECK.due("west to -101", two(1, 11, 19, "west", "").square(2), 298301);
        CHECK.due("south to -100", two(1, 10, 20, "south", "").square(2), 301299);
        CHECK.due("south to -101", two(1, 11, 19, "south", "").square(2), 301298);
        // From 50: to 300; and by a minute less, 480 less 231, to 299.
        CHECK.due("east to 300", two(0, 10, 20, "east", "").square(2), 303300);
        CHECK.due("east to 299", two(0, 17, 14, "east", "").square(2), 302300);
        CHECK.due("north to 300", two(0, 10, 20, "north", "").square(2), 300303);
        CHECK.due("north to 299", two(0, 17, 14, "north", "").square(2), 300302);
        CHECK.sentence(19, "a SQUARE below 0, where it is thought to be");
        CHECK.due("thought west to -190", two(0, 10, 20, "west", "").squareThought(1), 298300);
        CHECK.due("thought south to -190", two(0, 10, 20, "south", "").squareThought(1), 300298);
        CHECK.due("put right to -100", two(1, 10, 20, "south", ";noon at 2").squareThought(2), 301299);
        CHECK.due("put right to -101", two(1, 11, 19, "south", ";noon at 2").squareThought(2), 301298);
        CHECK.due("put right to 0", two(2, 10, 20, "south", ";noon at 2").squareThought(2), 302300);
    }

    private static void noons() {
        CHECK.sentence(15, "A noon that is SEEN puts right, once so many watches are kept, north and south");
        String text = Texts.one("sly", 10, 9, 1, ";watch b f south speed 1;watch b f north speed 1");
        int[][] due = {{550, 790, 550, 790}, {550, 710, 470, 710}, {550, 790, 550, 790}, {550, 790, 550, 710}};
        String[] noons = {"", ";noon at 1", ";noon at 2", ";noon at 3"};
        for (int i = 0; i < 4; i++) {
            GlassWatch x = Check.loaded(text + noons[i]);
            for (int n = 0; n <= 3; n++) CHECK.due("thought(" + n + ", true)" + noons[i], x.thought(n, true), due[i][n]);
        }
        GlassWatch all = Check.loaded(text + ";noon at 3;noon at 1;noon at 2");
        for (int n = 0; n <= 3; n++) CHECK.due("thought(" + n + ", true) by all", all.thought(n, true), all.at(n, true));
        GlassWatch last = Check.loaded(Texts.one("sly", 10, 9, 1, ";watch b f north speed 1".repeat(11) + ";noon at 12"));
        CHECK.due("thought(11, true)", last.thought(11, true), 550 + 11 * 240);
        CHECK.due("thought(12, true) at the last", last.thought(12, true), 550 + 12 * 160);
        CHECK.sentence(15, "not east and west");
        GlassWatch x = Check.loaded(text.replace("north", "east").replace("south", "west") + ";noon at 1;noon at 2;noon at 3");
        int[] east = {550, 790, 550, 790};
        for (int n = 0; n <= 3; n++) CHECK.due("thought(" + n + ", false)", x.thought(n, false), east[n]);
        CHECK.sentence(15, "all noons being SEEN, whatever the clouds");
        CHECK.due("clouds 100", Check.loaded((text + ";noon at 1").replace("clouds 50", "clouds 100")).thought(1, true), 710);
    }

    private static void errors() {
        CHECK.sentence(16, "How far both are apart, each way, together");
        String text = Texts.one("sly", 10, 9, 1, ";watch b f west speed 2;watch b f south speed 3");
        GlassWatch x = Check.loaded(text);
        int[] due = {0, 80, 240, 320};
        for (int n = 0; n <= 3; n++) CHECK.due("error(" + n + ")", x.error(n), due[n]);
        CHECK.due("the most", Check.loaded(Texts.one("bold", 20, 9, 9, ";watch b f north speed 9".repeat(11))).error(12), 17280);
        CHECK.sentence(17, "After how many watches (0 .. all) they are farthest apart, the first such");
        CHECK.due("never apart", Check.loaded(Texts.WEST).worst(), 0);
        CHECK.due("at the end", x.worst(), 3);
        CHECK.due("alike behind", Check.loaded(Texts.one("sly", 10, 9, 1, ";watch b f north speed 0")).worst(), 1);
        String back = Texts.one("sly", 10, 9, 1, ";watch b f south speed 1;watch b f north speed 1");
        CHECK.due("80, 0, 80", Check.loaded(back).worst(), 1);
        CHECK.due("80, 0, 88", Check.loaded(back.replace(";officer", ";boy c sly early 11;officer")
            .replace("speed 1;watch b f north speed 1", "speed 1;watch c f north speed 1"))
            .worst(), 3);
        CHECK.due("the last of twelve", Check.loaded(Texts.one("sly", 1, 9, 1, ";watch b f north speed 1".repeat(11))).worst(), 12);
    }

    private static void shoals() {
        CHECK.sentence(20, "after the first number of watches (0 .. all) after which it is in a shoal's SQUARE");
        CHECK.due("at first, and later", from(9, 9, "east", 0, ";shoal 9 9").strikes(), 0);
        CHECK.due("at the end", from(9, 9, "east", 1, ";shoal 11 9").strikes(), 1);
        CHECK.due("the sixth shoal",
            from(9, 9, "east", 1, ";shoal 1 1;shoal 1 2;shoal 1 3;shoal 1 4;shoal 1 5;shoal 11 9").strikes(), 1);
        String twelve = ";watch b f east speed 1".repeat(11);
        CHECK.due("the last of twelve", from(0, 0, "east", 1, twelve + ";shoal 29 0").strikes(), 12);
        CHECK.due("the first of several", from(0, 0, "east", 1, twelve + ";shoal 29 0;shoal 5 0;shoal 7 0").strikes(), 2);
        CHECK.due("on its way alone", from(0, 0, "east", 1, twelve + ";shoal 1 0;shoal 3 0;shoal 4 0").strikes(), -2);
        CHECK.due("the bounds of a shoal, 199", from(199, 199, "east", 1, ";shoal 199 199").strikes(), 0);
        CHECK.due("the bounds of a shoal, 0", from(0, 0, "east", 1, ";shoal 0 0").strikes(), 0);
        CHECK.due("east and north are two", from(1, 2, "east", 0, ";shoal 2 1").strikes(), -2);
        CHECK.due("-2 without a shoal", from(1, 2, "east", 0, "").strikes(), -2);
        // From 150 to -20, then to -100.
        CHECK.due("below 0 is no shoal", two(1, 10, 20, "west", ";shoal 0 1").strikes(), -2);
        CHECK.due("nor to the south", two(1, 10, 20, "south", ";shoal 1 0").strikes(), -2);
        CHECK.sentence(21, "After how many it is thought to; -2");
        CHECK.due("at first", from(9, 9, "east", 0, ";shoal 9 9").feared(), 0);
        CHECK.due("the last of twelve", from(0, 0, "east", 1, twelve + ";shoal 29 0").feared(), 12);
        CHECK.due("where it isn't", Check.loaded(Texts.one("sly", 10, 9, 1, ";shoal 5 7")).feared(), 1);
        CHECK.due("where it is alone", Check.loaded(Texts.one("sly", 10, 9, 1, ";shoal 5 7")).strikes(), 1);
        CHECK.due("where it is thought to be alone", Check.loaded(Texts.one("sly", 20, 9, 1, ";shoal 5 7")).strikes(), -2);
        CHECK.due("feared there", Check.loaded(Texts.one("sly", 20, 9, 1, ";shoal 5 7")).feared(), 1);
        CHECK.due("not feared where it is", Check.loaded(Texts.one("sly", 20, 9, 1, ";shoal 5 6")).feared(), -2);
        CHECK.due("but for a noon", Check.loaded(Texts.one("sly", 20, 9, 1, ";shoal 5 6;noon at 1")).feared(), 1);
    }

    /** Four boys, each by a number of his own: sixteen places, in sixteen SQUARES. */
    private static final String FOUR = "voyage from 50 50 clouds 0 idle 0;boy a sly early 0;boy b sly early 0;"
        + "boy c sly early 0;boy d sly early 0;officer f every 9;watch a f north speed 7;watch b f north speed 7;"
        + "watch c f north speed 7;watch d f north speed 7;unsure a 2;unsure b 4;unsure c 8;unsure d 16";

    private static void sets() {
        CHECK.sentence(22, "whichever of the unsure boys are otherwise early");
        GlassWatch x = Check.loaded(FOUR);
        int[] due = {1, 2, 4, 8, 16};
        for (int n = 0; n <= 4; n++) CHECK.due("canBe(" + n + ")", x.canBe(n), due[n]);
        CHECK.due("without unsure ones", Check.loaded(Texts.WEST).canBe(1), 1);
        CHECK.due("as early as told", Check.loaded(Texts.one("sly", 10, 9, 5, ";unsure b 10")).canBe(1), 1);
        CHECK.due("an honest one", Check.loaded(Texts.one("honest", 0, 9, 9, ";unsure b 20")).canBe(1), 1);
        CHECK.due("within one SQUARE", Check.loaded(Texts.one("sly", 0, 9, 1, ";unsure b 1")).canBe(1), 1);
        CHECK.due("not early at all", Check.loaded(Texts.one("sly", 20, 9, 5, ";unsure b 0")).canBe(1), 2);
        CHECK.sentence(22, "as NOW else");
        x.attend(0);
        CHECK.due("canBe(1) attended", x.canBe(1), 1);
        CHECK.due("canBe(4) attended", x.canBe(4), 8);
        x.relieve(3, 2);
        CHECK.due("canBe(4) relieved", x.canBe(4), 4);
        x.steer(1, 1);
        CHECK.due("canBe(4) steered", x.canBe(4), 4);
        CHECK.sentence(23, "By how many sets of unsure boys it STRIKES");
        CHECK.due("none", Check.loaded(FOUR).perils(), 0);
        CHECK.due("all sixteen", Check.loaded(FOUR + ";shoal 50 50").perils(), 16);
        CHECK.due("no unsure ones, it strikes", from(9, 9, "east", 0, ";shoal 9 9").perils(), 1);
        CHECK.due("no unsure ones, it doesn't", from(9, 9, "east", 0, "").perils(), 0);
        // Told: 5050 and 4 times 1680. By a 112 less, by d 896 less.
        CHECK.due("as told alone", Check.loaded(FOUR + ";shoal 50 117").perils(), 1);
        CHECK.due("by all of them, or by d alone or nobody", Check.loaded(FOUR + ";shoal 50 100").perils(), 3);
        CHECK.due("by half of them", Check.loaded(FOUR + ";shoal 50 67").perils(), 8);
        GlassWatch y = Check.loaded(FOUR + ";shoal 50 67");
        y.attend(0);
        CHECK.due("by all, attended NOW", y.perils(), 16);
        y.steer(0, 1);
        CHECK.due("by none, steered NOW", y.perils(), 0);
        y.undo();
        y.undo();
        CHECK.due("undone", y.perils(), 8);
    }

    public static void main(String[] args) {
        places();
        refusals();
        noVoyage();
        edgesOfSquares();
        noons();
        errors();
        shoals();
        sets();
        CHECK.end();
    }
}
