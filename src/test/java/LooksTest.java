/** Promises 24 to 29: which watches to attend, which course to change, who should relieve. */
public final class LooksTest {
    private static final Check CHECK = new Check();
    private static final GlassWatch NO_VOYAGE = new GlassWatch();
    private static final int MIN = Integer.MIN_VALUE;
    private static final int MAX = Integer.MAX_VALUE;

    private static void attending() {
        CHECK.promise(24);
        GlassWatch x = Check.loaded(Texts.FOUR);
        int[][] due = {{999, 0}, {180, 0}, {179, 1}, {120, 1}, {119, 8}, {100, 8}, {99, 3}, {96, 3}, {95, 9},
            {40, 9}, {39, 11}, {16, 11}, {15, -2}, {0, -2}};
        for (int[] d : due) CHECK.due("attendFor(" + d[0] + ")", x.attendFor(d[0]), d[1]);
        CHECK.due("trouble()", x.trouble(), 0);
        for (int m : new int[] {-1, 1000, MIN, MAX}) CHECK.refused("attendFor(" + m + ")", x, x.attendFor(m), -1, 2);
        x.attend(3);
        CHECK.due("attendFor(100) attended", x.attendFor(100), 0);
        CHECK.due("attendFor(99) attended", x.attendFor(99), 1);
        CHECK.due("attendFor(16) attended", x.attendFor(16), 3);
        GlassWatch full = Check.loaded(Texts.FULL);
        CHECK.due("attendFor(960)", full.attendFor(960), 4095);
        CHECK.due("attendFor(959)", full.attendFor(959), -2);
        CHECK.due("attendFor(999), eleven and a half", full.attendFor(999), 4095);
        CHECK.refused("attendFor(-1) of none", NO_VOYAGE, NO_VOYAGE.attendFor(-1), -1, 1);
        CHECK.promise(25);
        GlassWatch y = Check.loaded(Texts.FOUR);
        int[] sums = {180, 120, 156, 96, 180, 120, 156, 96, 100, 40, 76, 16, 100, 40, 76, 16};
        for (int bits = 0; bits < 16; bits++) CHECK.due("stolenIf(" + bits + ")", y.stolenIf(bits), sums[bits]);
        for (int bits : new int[] {-1, 16, MIN, MAX}) CHECK.refused("stolenIf(" + bits + ")", y, y.stolenIf(bits), -1, 2);
        y.attend(0);
        CHECK.due("stolenIf(0) attended", y.stolenIf(0), 120);
        CHECK.due("stolenIf(9) attended", y.stolenIf(9), 40);
        CHECK.due("it is not attended by asking", y.watch(3, 4), 0);
        CHECK.refused("stolenIf(-1) of none", NO_VOYAGE, NO_VOYAGE.stolenIf(-1), -1, 1);
        CHECK.promise(26);
        GlassWatch z = Check.loaded(Texts.FOUR);
        CHECK.due("lookFirst()", z.lookFirst(), 3);
        z.attend(3);
        CHECK.due("lookFirst() then", z.lookFirst(), 0);
        z.attend(0);
        CHECK.due("lookFirst() then", z.lookFirst(), 1);
        z.attend(1);
        CHECK.due("lookFirst() of nothing", z.lookFirst(), 0);
        CHECK.due("lookFirst() of like ones", full.lookFirst(), 0);
        CHECK.refused("lookFirst() of none", NO_VOYAGE, NO_VOYAGE.lookFirst(), -1, 1);
    }

    private static void courses() {
        CHECK.promise(27);
        GlassWatch x = Check.loaded(Texts.FOUR);
        CHECK.due("change(), though it strikes by an unsure boy alone", x.change(), 1);
        x.attend(0);
        CHECK.due("change() as it is", x.change(), 0);
        String still = Texts.one("honest", 0, 1, 0, ";watch b f north speed 5");
        CHECK.due("change() of the second", Check.loaded(still + ";shoal 5 17").change(), 11);
        CHECK.due("change() to the south", Check.loaded(still + ";shoal 5 17;shoal 17 5").change(), 12);
        CHECK.due("change() by none", Check.loaded(still + ";shoal 5 5").change(), -2);
        String near = Texts.one("honest", 0, 1, 2, ";shoal 5 10");
        CHECK.due("change() to the east", Check.loaded(near).change(), 1);
        CHECK.due("change() to the south", Check.loaded(near + ";shoal 10 5").change(), 2);
        CHECK.due("change() to the west", Check.loaded(near + ";shoal 10 5;shoal 5 0").change(), 3);
        CHECK.due("change() for nothing", Check.loaded(Texts.WEST).change(), 0);
        CHECK.due("it is not steered by asking", x.watch(0, 2), 0);
        CHECK.refused("change() of none", NO_VOYAGE, NO_VOYAGE.change(), -1, 1);
        CHECK.promise(28);
        GlassWatch y = Check.loaded(Texts.one("honest", 0, 1, 5, ";shoal 17 5"));
        CHECK.due("strikesIf(0, 0)", y.strikesIf(0, 0), -2);
        CHECK.due("strikesIf(0, 1)", y.strikesIf(0, 1), 1);
        CHECK.due("strikesIf(0, 3)", y.strikesIf(0, 3), -2);
        CHECK.due("trouble()", y.trouble(), 0);
        GlassWatch sly = Check.loaded(Texts.one("sly", 10, 9, 5, ";shoal 17 5;shoal 0 13;shoal 5 13"));
        CHECK.due("strikesIf(0, 1) where it is thought to be", sly.strikesIf(0, 1), -2);
        CHECK.due("strikesIf(0, 0) where it is", sly.strikesIf(0, 0), 1);
        for (int c : new int[] {-1, 4, MIN, MAX}) CHECK.refused("strikesIf(0, " + c + ")", y, y.strikesIf(0, c), -1, 2);
        for (int k : new int[] {-1, 1, MIN, MAX}) CHECK.refused("strikesIf(" + k + ", 9)", y, y.strikesIf(k, 9), -1, 1);
        CHECK.refused("strikesIf(0, 0) of none", NO_VOYAGE, NO_VOYAGE.strikesIf(0, 0), -1, 1);
    }

    private static void relief() {
        CHECK.promise(29);
        GlassWatch x = Check.loaded(Texts.FOUR);
        CHECK.due("relief(0)", x.relief(0), 2);
        CHECK.due("relief(2), its own", x.relief(2), 2);
        x.attend(0);
        CHECK.due("relief(0) attended, the first", x.relief(0), 0);
        CHECK.due("its boy stays", x.watch(0, 0), 0);
        String two = "voyage from 5 5 clouds 0 idle 0;boy a sly early 10;boy b bold early 9;officer f every 4;"
            + "watch a f north speed 5;watch b f north speed 5";
        CHECK.due("relief(0) by 60 against 62", Check.loaded(two).relief(0), 0);
        CHECK.due("relief(1) by 60 against 62", Check.loaded(two).relief(1), 0);
        CHECK.due("relief(0) by 60 against 56", Check.loaded(two.replace("early 9", "early 8")).relief(0), 1);
        for (int k : new int[] {-1, 4, MIN, MAX}) CHECK.refused("relief(" + k + ")", x, x.relief(k), -1, 1);
        CHECK.refused("relief(0) of none", NO_VOYAGE, NO_VOYAGE.relief(0), -1, 1);
    }

    public static void main(String[] args) {
        attending();
        courses();
        relief();
        CHECK.end();
    }
}
