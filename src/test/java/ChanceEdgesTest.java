import java.math.BigInteger;

/** Promises 37 to 45 at their bounds: noons by chance, boys among each other, idle boys by draws. */
public final class ChanceEdgesTest {
    private static final Check CHECK = new Check();
    private static final GlassWatch NO_VOYAGE = new GlassWatch();
    private static final int MIN = Integer.MIN_VALUE;
    private static final int MAX = Integer.MAX_VALUE;

    private static void odds(GlassWatch x, int n, int much, long upper, long lower) {
        CHECK.due("odds(" + n + ", " + much + ", false)", x.odds(n, much, false), upper);
        CHECK.due("odds(" + n + ", " + much + ", true)", x.odds(n, much, true), lower);
        CHECK.due("trouble()", x.trouble(), 0);
    }

    private static void mean(GlassWatch x, int n, long upper, long lower) {
        CHECK.due("mean(" + n + ", false)", x.mean(n, false), upper);
        CHECK.due("mean(" + n + ", true)", x.mean(n, true), lower);
        CHECK.due("trouble()", x.trouble(), 0);
    }

    private static long inLowest(long one, long other) {
        return one / BigInteger.valueOf(one).gcd(BigInteger.valueOf(other)).longValue();
    }

    private static void everyCloud() {
        for (int clouds = 0; clouds <= 100; clouds++) {
            GlassWatch x = Check.loaded(Texts.one("sly", 10, 9, 1, ";noon at 1").replace("clouds 50", "clouds " + clouds));
            CHECK.sentence(37, "in lowest terms (0 by 1), clouds " + clouds);
            odds(x, 1, 0, clouds == 100 ? 0 : inLowest(100 - clouds, 100), clouds == 100 ? 1 : inLowest(100, 100 - clouds));
            CHECK.sentence(38, "likewise, clouds " + clouds);
            mean(x, 1, clouds == 0 ? 0 : inLowest(80L * clouds, 100), clouds == 0 ? 1 : inLowest(100, 80L * clouds));
        }
    }

    private static void howMuch() {
        CHECK.sentence(37, "so much (0 .. 30,000) or less");
        GlassWatch x = Check.loaded(Texts.one("sly", 10, 9, 1, ";noon at 1"));
        odds(x, 1, 0, 1, 2);
        odds(x, 1, 79, 1, 2);
        odds(x, 1, 80, 1, 1);
        odds(x, 1, 30000, 1, 1);
        odds(x, 0, 0, 1, 1);
        odds(x, 0, 30000, 1, 1);
        CHECK.sentence(37, "-1: 1 (no VOYAGE); 2");
        for (int much : new int[] {-1, 30001, MIN, MAX}) {
            CHECK.refused("odds(1, " + much + ", false)", x, x.odds(1, much, false), -1, 2);
            CHECK.refused("odds(1, " + much + ", true)", x, x.odds(1, much, true), -1, 2);
        }
        for (int n : new int[] {-1, 2, MIN, MAX}) {
            CHECK.refused("odds(" + n + ", 0, false)", x, x.odds(n, 0, false), -1, 2);
            CHECK.refused("odds(" + n + ", -1, true)", x, x.odds(n, -1, true), -1, 2);
        }
        NO_VOYAGE.undo();
        for (int n : new int[] {0, -1}) CHECK.refused("odds of none", NO_VOYAGE, NO_VOYAGE.odds(n, n, true), -1, 1);
        CHECK.sentence(38, "-1: 1 (no VOYAGE); 2");
        for (int n : new int[] {-1, 2, MIN, MAX}) CHECK.refused("mean(" + n + ")", x, x.mean(n, n > 0), -1, 2);
        NO_VOYAGE.undo();
        for (int n : new int[] {0, -1}) CHECK.refused("mean of none", NO_VOYAGE, NO_VOYAGE.mean(n, true), -1, 1);
    }

    private static void noNoons() {
        CHECK.sentence(37, "CLOUDS: each noon told isn't SEEN, as likely as told; without a noon");
        GlassWatch x = Check.loaded(Texts.one("sly", 10, 9, 1, "").replace("clouds 50", "clouds 100"));
        odds(x, 1, 79, 0, 1);
        odds(x, 1, 80, 1, 1);
        mean(x, 1, 80, 1);
        mean(x, 0, 0, 1);
        CHECK.sentence(37, "to the east no noon helps");
        GlassWatch y = Check.loaded(Texts.one("sly", 10, 9, 1, ";noon at 1").replace("north", "east"));
        odds(y, 1, 79, 0, 1);
        odds(y, 1, 80, 1, 1);
        mean(y, 1, 80, 1);
    }

    private static void fourNoons() {
        // 133 minutes of each watch at speed 9: 1197 a watch since a noon was seen.
        String text = "voyage from 0 0 clouds 99 idle 0;boy b sly early 19;officer f every 8"
            + ";watch b f north speed 9".repeat(12) + ";noon at 12;noon at 9;noon at 11;noon at 10";
        GlassWatch x = Check.loaded(text);
        CHECK.sentence(37, "each for itself");
        odds(x, 12, 0, 1, 100);
        odds(x, 12, 1196, 1, 100);
        odds(x, 12, 1197, 199, 10000);
        odds(x, 12, 2394, 29701, 1000000);
        odds(x, 12, 3591, 3940399, 100000000);
        odds(x, 12, 14363, 3940399, 100000000);
        odds(x, 12, 14364, 1, 1);
        CHECK.sentence(38, "The mean of error after n watches, more than an int has room for");
        mean(x, 12, 1386815841873L, 100000000);
        CHECK.sentence(38, "a noon behind n watches is no matter");
        mean(x, 8, 9576, 1);
        mean(x, 9, 9 * 1197 * 99L, 100);
        odds(x, 8, 9575, 0, 1);
        odds(x, 8, 9576, 1, 1);
        CHECK.sentence(38, "all SEEN, none SEEN");
        mean(Check.loaded(text.replace("clouds 99", "clouds 0")), 12, 0, 1);
        mean(Check.loaded(text.replace("clouds 99", "clouds 100")), 12, 14364, 1);
        CHECK.sentence(38, "as NOW");
        for (int k = 0; k < 12; k++) x.attend(k);
        mean(x, 12, 0, 1);
        odds(x, 12, 0, 1, 1);
    }

    private static void dearest() {
        CHECK.sentence(39, "The noon, as told, without which error at the end would be most more");
        String three = Texts.one("sly", 10, 9, 1, ";watch b f north speed 1;watch b f north speed 1");
        CHECK.due("told first", Check.loaded(three + ";noon at 3;noon at 1;noon at 2").dearest(), 0);
        CHECK.due("told second", Check.loaded(three + ";noon at 1;noon at 3;noon at 2").dearest(), 1);
        CHECK.due("told third", Check.loaded(three + ";noon at 1;noon at 2;noon at 3").dearest(), 2);
        CHECK.due("not at the end", Check.loaded(three + ";noon at 1").dearest(), 0);
        CHECK.due("the later of two", Check.loaded(three + ";noon at 1;noon at 2").dearest(), 1);
        CHECK.due("the fourth told", Check.loaded(Texts.one("sly", 10, 9, 1, ";watch b f south speed 1".repeat(11)
            + ";noon at 1;noon at 2;noon at 3;noon at 12")).dearest(), 3);
        CHECK.due("whatever the clouds", Check.loaded((three + ";noon at 1").replace("clouds 50", "clouds 100")).dearest(), 0);
        CHECK.sentence(39, "-2 by none more");
        CHECK.due("no noon", Check.loaded(three).dearest(), -2);
        CHECK.due("nothing stolen", Check.loaded(three.replace("early 10", "early 0") + ";noon at 3").dearest(), -2);
        CHECK.due("to the east", Check.loaded(three.replace("north", "east") + ";noon at 3").dearest(), -2);
        String back = Texts.one("sly", 10, 9, 1, ";watch b f south speed 1;noon at 1");
        CHECK.due("less without it", Check.loaded(back).dearest(), -2);
        CHECK.due("either will do", Check.loaded(Texts.one("sly", 10, 9, 1, ";watch b f east speed 1;noon at 1;noon at 2"))
            .dearest(), -2);
        // With the last noon 0; without it four times 80, from where the first one put it right.
        CHECK.due("the first helps not enough", Check.loaded(back + ";watch b f south speed 3;noon at 3").dearest(), 1);
        CHECK.sentence(39, "as NOW");
        GlassWatch x = Check.loaded(three + ";noon at 3");
        CHECK.due("one noon", x.dearest(), 0);
        for (int k = 0; k < 3; k++) x.attend(k);
        CHECK.due("all attended", x.dearest(), -2);
        CHECK.sentence(39, "NONE: 1 (no VOYAGE)");
        NO_VOYAGE.undo();
        CHECK.refused("dearest() of none", NO_VOYAGE, NO_VOYAGE.dearest(), -1, 1);
    }

    private static void boysAmongEachOther() {
        GlassWatch x = Check.loaded(Texts.FULL);
        CHECK.sentence(40, "both: 3 less port each");
        CHECK.due("port 0", x.steals(0, true, true, false), 3);
        CHECK.due("port 3", x.steals(3, true, true, true), 0);
        CHECK.due("port 9", x.steals(9, true, true, false), -6);
        CHECK.due("trouble()", x.trouble(), 0);
        CHECK.sentence(40, "one alone: he has 2, the other one less 1");
        CHECK.due("the one", x.steals(0, true, false, false), 2);
        CHECK.due("the other one, not stealing", x.steals(9, true, false, true), -1);
        CHECK.due("the other one", x.steals(9, false, true, true), 2);
        CHECK.due("the one, not stealing", x.steals(0, false, true, false), -1);
        CHECK.due("trouble() of -1, which is no refusal", x.trouble(), 0);
        CHECK.sentence(40, "neither: 1 each");
        CHECK.due("the one", x.steals(9, false, false, false), 1);
        CHECK.due("the other one", x.steals(0, false, false, true), 1);
        CHECK.sentence(41, "REST: a pair by which neither could have more alone");
        int[] rests = {1, 1, 1, 1, 3, 2, 2, 2, 2, 2};
        int[] first = {11, 11, 11, 11, 1, 1, 1, 1, 1, 1};
        for (int port = 0; port < 10; port++) CHECK.due("rests(" + port + ")", x.rests(port), rests[port]);
        CHECK.sentence(42, "The first (not stealing ahead, the one's first)");
        for (int port = 0; port < 10; port++) CHECK.due("rest(" + port + ")", x.rest(port), first[port]);
        for (int port : new int[] {-1, 10, MIN, MAX}) {
            CHECK.sentence(40, "port is so much (0 .. 9). -100: 1 (no VOYAGE); 2");
            CHECK.refused("steals(" + port + ")", x, x.steals(port, false, false, false), -100, 2);
            NO_VOYAGE.undo();
            CHECK.refused("steals of none", NO_VOYAGE, NO_VOYAGE.steals(port, true, true, true), -100, 1);
            CHECK.sentence(41, "NONE: 1 (no VOYAGE); 2");
            CHECK.refused("rests(" + port + ")", x, x.rests(port), -1, 2);
            NO_VOYAGE.undo();
            CHECK.refused("rests of none", NO_VOYAGE, NO_VOYAGE.rests(port), -1, 1);
            CHECK.sentence(42, "NONE: likewise");
            CHECK.refused("rest(" + port + ")", x, x.rest(port), -1, 2);
            NO_VOYAGE.undo();
            CHECK.refused("rest of none", NO_VOYAGE, NO_VOYAGE.rest(port), -1, 1);
        }
    }

    private static int idled(String kind, int early, int every, int idle, int seed) {
        return Check.loaded(Texts.one(kind, early, every, 1, "").replace("idle 50", "idle " + idle)).idled(seed, 1);
    }

    private static void draws() {
        // From 873: 12 74 87 3 12 34 55 41; from 874: 87 99 40 57 54 44 87 86; from 872: 74 86 71 49 70 24 23 96.
        CHECK.sentence(43, "a DRAW mod 100: below idle he isn't");
        CHECK.due("idle 0", idled("sly", 1, 9, 0, 873), 8);
        CHECK.due("idle 3", idled("sly", 1, 9, 3, 873), 8);
        CHECK.due("idle 4", idled("sly", 1, 9, 4, 873), 7);
        CHECK.due("idle 12", idled("sly", 1, 9, 12, 873), 7);
        CHECK.due("idle 13", idled("sly", 1, 9, 13, 873), 5);
        CHECK.due("idle 99 by a draw of 99", idled("sly", 1, 9, 99, 874), 1);
        CHECK.due("idle 100 by a draw of 99", idled("sly", 1, 9, 100, 874), 0);
        CHECK.sentence(43, "SEED becomes (75 times SEED and 74) mod 65,537");
        CHECK.due("the last that doesn't wrap around", idled("sly", 1, 9, 24, 872), 7);
        CHECK.due("and one more", idled("sly", 1, 9, 25, 872), 6);
        // From 45438 SEED becomes 0, then 74, ..: 0 74 24 52 90 41 9 31. 65536 becomes itself: 36.
        CHECK.due("a SEED that becomes 0, idle 0", idled("sly", 1, 9, 0, 45438), 8);
        CHECK.due("a SEED that becomes 0, idle 1", idled("sly", 1, 9, 1, 45438), 7);
        CHECK.due("a SEED that becomes 0, idle 50", idled("sly", 1, 9, 50, 45438), 3);
        CHECK.due("65,536, idle 36", idled("sly", 1, 9, 36, 65536), 8);
        CHECK.due("65,536, idle 37", idled("sly", 1, 9, 37, 65536), 0);
        // From 0: 74 24 52 90 41 9 31 44, 4 50 39 86 34 96 57 40.
        CHECK.sentence(43, "for each glass at which a boy would be early, watch by watch");
        CHECK.due("sly, every second looked at", idled("sly", 1, 2, 50, 0), 3);
        CHECK.due("bold, half of 1 is nothing", idled("bold", 1, 2, 50, 0), 3);
        CHECK.due("bold by 2 and 1", idled("bold", 2, 2, 50, 0), 5);
        CHECK.due("not early at all", idled("sly", 0, 9, 0, 0), 0);
        CHECK.due("honest", idled("honest", 20, 9, 0, 0), 0);
        String between = "voyage from 5 5 clouds 0 idle 50;boy a sly early 1;boy h honest early 9;boy z bold early 0;"
            + "officer f every 9;officer g every 1;watch h f east speed 1;watch a f east speed 1;watch h f east speed 1;"
            + "watch z f east speed 1;watch a g east speed 1;watch a f east speed 1";
        int[] due = {0, 0, 3, 3, 3, 3, 7};
        GlassWatch x = Check.loaded(between);
        for (int n = 0; n <= 6; n++) CHECK.due("idled(0, " + n + ")", x.idled(0, n), due[n]);
        x.attend(1);
        CHECK.due("attended, he draws no more", x.idled(0, 6), 3);
        CHECK.due("asked again, alike", x.idled(0, 6), 3);
    }

    private static void refusedDraws() {
        GlassWatch x = Check.loaded(Texts.FOUR);
        CHECK.sentence(43, "a SEED (0 .. 65,536)");
        x.idled(0, 4);
        CHECK.due("trouble() of 0", x.trouble(), 0);
        x.idled(65536, 4);
        CHECK.due("trouble() of 65,536", x.trouble(), 0);
        for (int wrong : new int[] {-1, 65537, MIN, MAX}) {
            refuse(x, wrong, 0, 2);
            refuse(x, wrong, -1, 2);
            refuse(x, 0, wrong, 2);
            refuse(NO_VOYAGE, wrong, wrong, 1);
        }
        refuse(NO_VOYAGE, 0, 0, 1);
        CHECK.sentence(43, "the first n watches");
        CHECK.due("idled(9, 0)", x.idled(9, 0), 0);
        CHECK.refused("idled(9, 5)", x, x.idled(9, 5), -1, 2);
        CHECK.sentence(44, "after n watches");
        CHECK.due("squareBy(9, 0)", x.squareBy(9, 0), 310320);
        CHECK.refused("squareBy(9, 5)", x, x.squareBy(9, 5), -1, 2);
        CHECK.sentence(45, "n voyages (0 .. 20)");
        CHECK.due("wrecks(9, 0)", x.wrecks(9, 0), 0);
        x.wrecks(9, 20);
        CHECK.due("trouble() of 20", x.trouble(), 0);
        CHECK.refused("wrecks(9, 21)", x, x.wrecks(9, 21), -1, 2);
    }

    private static void refuse(GlassWatch x, int seed, int n, int why) {
        CHECK.sentence(43, "NONE: 1 (no VOYAGE); 2");
        CHECK.refused("idled(" + seed + ", " + n + ")", x, x.idled(seed, n), -1, why);
        x.undo();
        CHECK.sentence(44, "NONE: 1 (no VOYAGE); 2");
        CHECK.refused("squareBy(" + seed + ", " + n + ")", x, x.squareBy(seed, n), -1, why);
        x.undo();
        CHECK.sentence(45, "NONE: 1 (no VOYAGE); 2");
        CHECK.refused("wrecks(" + seed + ", " + n + ")", x, x.wrecks(seed, n), -1, why);
        x.undo();
    }

    private static void wrecks() {
        // By 9 times 240 less 30, less 40, less 50: to 2440, 2350, 2260.
        String one = Texts.one("sly", 10, 9, 9, "");
        CHECK.sentence(44, "The SQUARE it is in after n watches by a SEED");
        CHECK.due("squareBy(0, 1)", Check.loaded(one).squareBy(0, 1), 305324);
        CHECK.due("none idle", Check.loaded(one.replace("idle 50", "idle 0")).squareBy(0, 1), 305319);
        CHECK.due("all idle", Check.loaded(one.replace("idle 50", "idle 100")).squareBy(0, 1), 305327);
        String west = one.replace("from 5 5", "from 0 0").replace("north", "west");
        CHECK.due("below 0", Check.loaded(west).squareBy(0, 1), 281300);
        CHECK.sentence(45, "one behind the other by a SEED");
        int[][] due = {{24, 1, 1, 1}, {23, 0, 1, 1}, {22, 0, 0, 1}, {19, 0, 0, 0}};
        for (int[] d : due) {
            GlassWatch x = Check.loaded(one + ";shoal 5 " + d[0]);
            for (int n = 1; n <= 3; n++) CHECK.due("wrecks(0, " + n + ") by " + d[0], x.wrecks(0, n), d[n]);
        }
        CHECK.due("wrecks(0, 3) of both", Check.loaded(one + ";shoal 5 22;shoal 5 24").wrecks(0, 3), 2);
        CHECK.sentence(45, "each with all its watches, whether it STRIKES ahead or not");
        String two = Texts.one("sly", 10, 9, 9, ";watch b f north speed 0");
        CHECK.due("the second by draws 17 to 24", Check.loaded(two + ";shoal 5 24;shoal 5 22").wrecks(0, 2), 2);
        CHECK.due("not by draws 9 to 16", Check.loaded(two + ";shoal 5 24;shoal 5 23").wrecks(0, 2), 1);
        CHECK.due("at first, twenty times", Check.loaded(two + ";shoal 5 5").wrecks(0, 20), 20);
        CHECK.due("at first, once", Check.loaded(two + ";shoal 5 5").wrecks(65536, 1), 1);
        CHECK.due("nowhere", Check.loaded(two).wrecks(0, 20), 0);
    }

    public static void main(String[] args) {
        everyCloud();
        howMuch();
        noNoons();
        fourNoons();
        dearest();
        boysAmongEachOther();
        draws();
        refusedDraws();
        wrecks();
        CHECK.end();
    }
}
