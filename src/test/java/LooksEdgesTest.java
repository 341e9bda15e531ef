/** Promises 24 to 29 at their bounds: fewest watches and least bits, courses that all strike, likes among boys. */
public final class LooksEdgesTest {
    private static final Check CHECK = new Check();
    private static final GlassWatch NO_VOYAGE = new GlassWatch();
    private static final int MIN = Integer.MIN_VALUE;
    private static final int MAX = Integer.MAX_VALUE;

    /** Sly boys a, b, .. of whom nobody is looked at, so early; a watch of each that the order names. */
    private static GlassWatch sly(String order, int... early) {
        return Check.loaded(crew("sly", order, early));
    }

    private static String crew(String kind, String order, int... early) {
        StringBuilder t = new StringBuilder("voyage from 9 9 clouds 0 idle 0;officer n every 9");
        for (int b = 0; b < early.length; b++) {
            t.append(";boy ").append((char) ('a' + b)).append(' ').append(kind).append(" early ").append(early[b]);
        }
        for (char b : order.toCharArray()) t.append(";watch ").append(b).append(" n east speed 1");
        return t.toString();
    }

    private static void attendFor(GlassWatch x, int minutes, int bits) {
        CHECK.due("attendFor(" + minutes + ")", x.attendFor(minutes), bits);
        CHECK.due("trouble()", x.trouble(), 0);
        if (bits >= 0) CHECK.due("it is enough", x.stolenIf(bits) <= minutes, true);
    }

    private static void attending() {
        CHECK.sentence(24, "the fewest watches by which, attended, no more is STOLEN in all");
        GlassWatch x = sly("abc", 10, 5, 20);
        int[][] due = {{280, 0}, {279, 1}, {200, 1}, {199, 4}, {120, 4}, {119, 5}, {80, 5}, {40, 5}, {39, 7}, {0, 7}};
        for (int[] d : due) attendFor(x, d[0], d[1]);
        attendFor(sly("bbc", 10, 5, 20), 160, 4);
        attendFor(sly("aabc", 5, 10, 20), 80, 12);
        CHECK.sentence(24, "of like ones the least bits");
        attendFor(sly("aaaa", 10), 160, 3);
        attendFor(sly("abbc", 5, 10, 15), 160, 6);
        attendFor(sly("cbba", 5, 10, 15), 160, 3);
        attendFor(sly("aaaaaaaaaaaa", 5), 40, 2047);
        attendFor(sly("aaaaaaaaaaaa", 5), 479, 1);
        CHECK.sentence(24, "besides those attended NOW");
        GlassWatch some = sly("aaaa", 10);
        some.attend(0);
        attendFor(some, 240, 0);
        attendFor(some, 239, 2);
        attendFor(some, 80, 6);
        attendFor(some, 0, 14);
        CHECK.sentence(24, "0 if it is no more NOW");
        attendFor(Check.loaded(Texts.WEST), 0, 0);
        attendFor(x, 999, 0);
        for (int k = 1; k < 4; k++) some.attend(k);
        attendFor(some, 0, 0);
        CHECK.sentence(24, "-2 all aren't enough");
        GlassWatch bold = Check.loaded(crew("bold", "aaaaaaaaaaaa", 20));
        attendFor(bold, 960, 4095);
        attendFor(bold, 959, -2);
        for (int k = 0; k < 12; k++) bold.attend(k);
        attendFor(bold, 960, 0);
        attendFor(bold, 959, -2);
        GlassWatch one = Check.loaded(crew("bold", "a", 1));
        attendFor(one, 0, 1);
        attendFor(Check.loaded(crew("bold", "a", 2)), 7, -2);
        attendFor(Check.loaded(crew("bold", "a", 2)), 8, 1);
        CHECK.sentence(24, "so many minutes (0 .. 999). NONE: 1 (no VOYAGE); 2");
        attendFor(one, 999, 0);
        for (int m : new int[] {-1, 1000, MIN, MAX}) CHECK.refused("attendFor(" + m + ")", one, one.attendFor(m), -1, 2);
        for (int m : new int[] {0, -1, 1000}) {
            NO_VOYAGE.undo();
            CHECK.refused("attendFor(" + m + ") of none", NO_VOYAGE, NO_VOYAGE.attendFor(m), -1, 1);
        }
    }

    private static void stolenIf() {
        CHECK.sentence(25, "some watches, as bits (attended ones may be among them), attended besides");
        GlassWatch x = sly("abc", 10, 5, 20);
        x.attend(1);
        int[] due = {240, 160, 240, 160, 80, 0, 80, 0};
        for (int bits = 0; bits < 8; bits++) CHECK.due("stolenIf(" + bits + ")", x.stolenIf(bits), due[bits]);
        CHECK.due("nothing is attended by asking", x.stolenBy(3), 240);
        CHECK.sentence(25, "NONE: 1 (no VOYAGE); 2 (no such bits)");
        for (int bits : new int[] {8, 16, 4095, -1, MIN, MAX}) CHECK.refused("stolenIf(" + bits + ")", x, x.stolenIf(bits), -1, 2);
        GlassWatch full = Check.loaded(Texts.FULL);
        CHECK.due("stolenIf(4095)", full.stolenIf(4095), 960);
        CHECK.due("stolenIf(2048)", full.stolenIf(2048), 1840);
        CHECK.refused("stolenIf(4096)", full, full.stolenIf(4096), -1, 2);
        GlassWatch one = Check.loaded(Texts.WEST);
        CHECK.due("stolenIf(1) of one", one.stolenIf(1), 0);
        CHECK.refused("stolenIf(2) of one", one, one.stolenIf(2), -1, 2);
        for (int bits : new int[] {0, -1, 1}) {
            NO_VOYAGE.undo();
            CHECK.refused("stolenIf(" + bits + ") of none", NO_VOYAGE, NO_VOYAGE.stolenIf(bits), -1, 1);
        }
    }

    private static void lookFirst() {
        CHECK.sentence(26, "The watch (of all) by which, attended, least is STOLEN in all, the first such");
        CHECK.due("nothing stolen", Check.loaded(Texts.WEST).lookFirst(), 0);
        CHECK.due("alike", sly("aaa", 10).lookFirst(), 0);
        CHECK.due("the last", sly("abc", 10, 5, 20).lookFirst(), 2);
        CHECK.due("the first of two", sly("bcac", 10, 5, 20).lookFirst(), 1);
        CHECK.due("the twelfth", sly("aaaaaaaaaaab", 10, 11).lookFirst(), 11);
        // A bold boy of 20 saves 80, a sly one of 11 all his 88: less stolen counts, not who steals most.
        String two = crew("sly", "ab", 20, 11).replace("boy a sly", "boy a bold");
        CHECK.due("what is saved counts", Check.loaded(two).lookFirst(), 1);
        GlassWatch x = sly("ba", 10, 20);
        x.attend(0);
        CHECK.due("one is attended", x.lookFirst(), 1);
        x.attend(1);
        CHECK.due("all are attended", x.lookFirst(), 0);
        CHECK.sentence(26, "NONE: 1 (no VOYAGE)");
        NO_VOYAGE.undo();
        CHECK.refused("lookFirst() of none", NO_VOYAGE, NO_VOYAGE.lookFirst(), -1, 1);
    }

    private static GlassWatch ship(String watches, String more) {
        StringBuilder t = new StringBuilder("voyage from 9 9 clouds 0 idle 0;boy b sly early 0;officer f every 9");
        for (String w : watches.split(",")) t.append(";watch b f ").append(w.replace(" ", " speed "));
        return Check.loaded(t + more);
    }

    private static void change() {
        String north = ";shoal 9 11";
        String east = ";shoal 11 9";
        String south = ";shoal 9 7";
        String west = ";shoal 7 9";
        CHECK.sentence(27, "the first such, by watches, then courses (0 north, 1 east, 2 south, 3 west)");
        CHECK.due("any", ship("west 1", "").change(), 0);
        CHECK.due("but north", ship("north 1", north).change(), 1);
        CHECK.due("but north and east", ship("north 1", north + east).change(), 2);
        CHECK.due("west", ship("north 1", north + east + south).change(), 3);
        CHECK.due("west of the first, though the second could", ship("north 1,north 0", north + east + south).change(), 3);
        CHECK.due("the second", ship("north 0,north 1", north).change(), 11);
        CHECK.due("the twelfth", ship("north 0,".repeat(11) + "north 1", north).change(), 111);
        CHECK.due("the twelfth to the west", ship("north 0,".repeat(11) + "north 1", north + east + south).change(), 113);
        CHECK.sentence(27, "-2 by none");
        CHECK.due("all four strike; a ship can't lie still", ship("north 1", north + east + south + west).change(), -2);
        CHECK.due("it strikes at first", ship("north 1,north 1", ";shoal 9 9").change(), -2);
        CHECK.sentence(27, "the course as it is stands for itself");
        CHECK.due("it strikes nowhere by north as it is", ship("north 1", east).change(), 0);
        CHECK.due("by south as it is", ship("south 1", north + east).change(), 2);
        CHECK.sentence(27, "whichever of the unsure boys are otherwise early");
        // As told by 240, else by 80: to 1190 or 1030 north, to 710 or 870 south.
        CHECK.due("north as told", ship("north 1", ";unsure b 20" + north).change(), 1);
        CHECK.due("north by the unsure one", ship("north 1", ";unsure b 20;shoal 9 10").change(), 1);
        CHECK.due("each course by one of both", ship("north 1", ";unsure b 20;shoal 9 10;shoal 11 9;shoal 9 8").change(), 3);
        CHECK.due("all courses by one of both", ship("north 1", ";unsure b 20;shoal 9 10;shoal 11 9;shoal 9 8;shoal 8 9").change(), -2);
        GlassWatch x = ship("north 1", ";unsure b 20;shoal 9 10;shoal 11 9;shoal 9 8;shoal 8 9");
        x.attend(0);
        CHECK.due("as NOW else: attended, he can't", x.change(), 0);
        CHECK.due("nothing is steered by asking", x.watch(0, 2), 0);
        CHECK.sentence(27, "NONE: 1 (no VOYAGE)");
        NO_VOYAGE.undo();
        CHECK.refused("change() of none", NO_VOYAGE, NO_VOYAGE.change(), -1, 1);
    }

    private static void strikesIf() {
        CHECK.sentence(28, "After how many watches it would STRIKE, were one steered otherwise; -2");
        GlassWatch x = ship("north 1,north 1", ";shoal 9 11;shoal 11 11;shoal 7 9");
        int[][] due = {{1, 2, -2, 1}, {1, 1, 1, 1}};
        for (int k = 0; k < 2; k++) {
            for (int c = 0; c < 4; c++) CHECK.due("strikesIf(" + k + ", " + c + ")", x.strikesIf(k, c), due[k][c]);
        }
        CHECK.due("at first", ship("north 1", ";shoal 9 9").strikesIf(0, 3), 0);
        CHECK.due("the twelfth", ship("north 0,".repeat(11) + "north 1", ";shoal 7 9").strikesIf(11, 3), 12);
        CHECK.due("unsure ones are as told", ship("north 1", ";unsure b 20;shoal 9 10").strikesIf(0, 0), -2);
        CHECK.due("nothing is steered by asking", x.strikes(), 1);
        CHECK.sentence(28, "NONE: 1; 2 (0 .. 3)");
        for (int c : new int[] {-1, 4, MIN, MAX}) CHECK.refused("strikesIf(1, " + c + ")", x, x.strikesIf(1, c), -1, 2);
        for (int k : new int[] {-1, 2, 12, MIN, MAX}) {
            CHECK.refused("strikesIf(" + k + ", 0)", x, x.strikesIf(k, 0), -1, 1);
            CHECK.refused("strikesIf(" + k + ", 4), both wrong", x, x.strikesIf(k, 4), -1, 1);
        }
        NO_VOYAGE.undo();
        CHECK.refused("strikesIf(0, 0) of none", NO_VOYAGE, NO_VOYAGE.strikesIf(0, 0), -1, 1);
    }

    private static void relief() {
        CHECK.sentence(29, "The boy (of all, its own too) that least is STOLEN in it, the first such");
        CHECK.due("its own, the one there is", Check.loaded(Texts.WEST).relief(0), 0);
        CHECK.due("the last of five", sly("a", 9, 8, 7, 6, 5).relief(0), 4);
        CHECK.due("its own, the last", sly("e", 9, 8, 7, 6, 5).relief(0), 4);
        CHECK.due("the first of two alike", sly("a", 9, 5, 7, 5, 6).relief(0), 1);
        CHECK.due("though its own is alike", sly("d", 9, 5, 7, 5, 6).relief(0), 1);
        CHECK.due("of the last watch", sly("aaaaaaaaaaaa", 9, 5).relief(11), 1);
        GlassWatch x = sly("ab", 9, 5);
        x.attend(0);
        CHECK.due("attended: all are alike", x.relief(0), 0);
        CHECK.due("the other one isn't", x.relief(1), 1);
        x.relieve(1, 0);
        CHECK.due("relieved already", x.relief(1), 1);
        CHECK.due("nobody is relieved by asking", x.watch(1, 0), 0);
        // Who is looked at every fourth glass: a bold one of 9 steals 62, a sly one of 10 but 60.
        CHECK.due("by what is stolen, not by who is early", Check.loaded("voyage from 0 0 clouds 0 idle 0;boy a bold early 9;"
            + "boy b sly early 10;officer f every 4;watch a f east speed 1").relief(0), 1);
        CHECK.sentence(29, "NONE: 1");
        for (int k : new int[] {-1, 2, 12, MIN, MAX}) CHECK.refused("relief(" + k + ")", x, x.relief(k), -1, 1);
        NO_VOYAGE.undo();
        CHECK.refused("relief(0) of none", NO_VOYAGE, NO_VOYAGE.relief(0), -1, 1);
    }

    public static void main(String[] args) {
        attending();
        stolenIf();
        lookFirst();
        change();
        strikesIf();
        relief();
        CHECK.end();
    }
}
