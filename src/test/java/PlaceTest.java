/** Promises 14 to 23: where the ship is, where it is thought to be, when it strikes. */
public final class PlaceTest {
    private static final Check CHECK = new Check();
    private static final GlassWatch NO_VOYAGE = new GlassWatch();
    private static final int[] WRONG = {-1, 5, Integer.MIN_VALUE, Integer.MAX_VALUE};

    private static void places() {
        GlassWatch x = Check.loaded(Texts.FOUR);
        int[] east = {1050, 1050, 1850, 1850, 1690};
        int[] north = {2050, 2950, 2950, 2470, 2470};
        int[] thoughtEast = {1050, 1050, 2010, 2010, 1770};
        int[] thoughtNorth = {2050, 3250, 2950, 2470, 2470};
        int[] apart = {0, 300, 160, 160, 80};
        int[] square = {310320, 310329, 318329, 318324, 316324};
        int[] squareThought = {310320, 310332, 320329, 320324, 317324};
        for (int n = 0; n <= 4; n++) {
            CHECK.promise(14);
            CHECK.due("at(" + n + ", false)", x.at(n, false), east[n]);
            CHECK.due("at(" + n + ", true)", x.at(n, true), north[n]);
            CHECK.promise(15);
            CHECK.due("thought(" + n + ", false)", x.thought(n, false), thoughtEast[n]);
            CHECK.due("thought(" + n + ", true)", x.thought(n, true), thoughtNorth[n]);
            CHECK.promise(16);
            CHECK.due("error(" + n + ")", x.error(n), apart[n]);
            CHECK.promise(18);
            CHECK.due("square(" + n + ")", x.square(n), square[n]);
            CHECK.promise(19);
            CHECK.due("squareThought(" + n + ")", x.squareThought(n), squareThought[n]);
        }
        CHECK.due("trouble()", x.trouble(), 0);
        for (int n : WRONG) refuse(x, n, 2);
        refuse(NO_VOYAGE, 0, 1);
        refuse(NO_VOYAGE, 99, 1);
    }

    private static void refuse(GlassWatch x, int n, int trouble) {
        CHECK.promise(14);
        CHECK.refused("at(" + n + ")", x, x.at(n, true), -1000000, trouble);
        CHECK.promise(15);
        CHECK.refused("thought(" + n + ")", x, x.thought(n, false), -1000000, trouble);
        CHECK.promise(16);
        CHECK.refused("error(" + n + ")", x, x.error(n), -1, trouble);
        CHECK.promise(18);
        CHECK.refused("square(" + n + ")", x, x.square(n), -1, trouble);
        CHECK.promise(19);
        CHECK.refused("squareThought(" + n + ")", x, x.squareThought(n), -1, trouble);
        CHECK.promise(22);
        CHECK.refused("canBe(" + n + ")", x, x.canBe(n), -1, trouble);
    }

    private static void farAndBelow() {
        GlassWatch x = Check.loaded(Texts.WEST);
        CHECK.promise(14);
        CHECK.due("at(1, false)", x.at(1, false), -2110);
        CHECK.promise(18);
        CHECK.due("square(1), east below 0", x.square(1), 278300);
        CHECK.due("square(1), north below 0",
            Check.loaded(Texts.WEST.replace("west", "south")).square(1), 300278);
        CHECK.promise(19);
        CHECK.due("squareThought(1)", x.squareThought(1), 278300);
        GlassWatch full = Check.loaded(Texts.FULL);
        CHECK.promise(14);
        CHECK.due("at(12, true)", full.at(12, true), 28590);
        CHECK.promise(15);
        CHECK.due("thought(2, true)", full.thought(2, true), 22830);
        CHECK.due("thought(11, true)", full.thought(11, true), 35070);
        CHECK.due("thought(12, true)", full.thought(12, true), 28590);
        CHECK.promise(17);
        CHECK.due("worst()", full.worst(), 11);
        CHECK.due("worst() of the first", Check.loaded(Texts.FOUR).worst(), 1);
        CHECK.due("worst() of none", x.worst(), 0);
        CHECK.due("worst() of the last", Check.loaded(Texts.one("sly", 10, 9, 5, "")).worst(), 1);
        CHECK.due("worst() of two alike", Check.loaded(Texts.one("sly", 10, 9, 5, ";watch b f east speed 0")).worst(), 1);
        CHECK.refused("worst() of no voyage", NO_VOYAGE, NO_VOYAGE.worst(), -1, 1);
        CHECK.promise(16);
        CHECK.due("error(5)", full.error(5), 2880);
        // To the east no noon helps, and both ways are added.
        GlassWatch both = Check.loaded(Texts.one("sly", 10, 9, 5, ";watch b f east speed 2;noon at 1"));
        CHECK.due("error(2) to the east", both.error(2), 160);
        both.steer(0, 3);
        CHECK.due("error(2) by west and east", both.error(2), 240);
        GlassWatch unseen = Check.loaded(Texts.one("sly", 10, 9, 5, ";watch b f west speed 2"));
        CHECK.due("error(2) each way", unseen.error(2), 560);
    }

    private static void shoals() {
        String text = Texts.one("sly", 10, 9, 5, ";watch b f east speed 0");
        CHECK.promise(20);
        CHECK.due("strikes() nowhere", Check.loaded(text).strikes(), -2);
        CHECK.due("strikes() at first", Check.loaded(text + ";shoal 5 5;shoal 5 13").strikes(), 0);
        CHECK.due("strikes() after one", Check.loaded(text + ";shoal 5 17;shoal 5 13").strikes(), 1);
        CHECK.due("strikes() on its way only", Check.loaded(text + ";shoal 5 10;shoal 13 5").strikes(), -2);
        CHECK.due("strikes() after two",
            Check.loaded(Texts.one("sly", 10, 9, 5, ";watch b f east speed 1;shoal 7 13")).strikes(), 2);
        CHECK.refused("strikes() of no voyage", NO_VOYAGE, NO_VOYAGE.strikes(), -1, 1);
        CHECK.promise(21);
        CHECK.due("feared() nowhere", Check.loaded(text + ";shoal 5 13").feared(), -2);
        CHECK.due("feared() at first", Check.loaded(text + ";shoal 5 5").feared(), 0);
        CHECK.due("feared() after one", Check.loaded(text + ";shoal 5 17").feared(), 1);
        CHECK.due("feared() put right", Check.loaded(text + ";shoal 5 17;noon at 1").feared(), -2);
        CHECK.due("feared() where it is", Check.loaded(text + ";shoal 5 13;noon at 1").feared(), 1);
        CHECK.due("feared() later", Check.loaded(text + ";shoal 5 13;noon at 2").feared(), 2);
        CHECK.refused("feared() of no voyage", NO_VOYAGE, NO_VOYAGE.feared(), -1, 1);
    }

    private static void doubts() {
        GlassWatch x = Check.loaded(Texts.FOUR);
        int[] can = {1, 2, 2, 2, 2};
        CHECK.promise(22);
        for (int n = 0; n <= 4; n++) CHECK.due("canBe(" + n + ")", x.canBe(n), can[n]);
        x.attend(0);
        CHECK.due("canBe(1) attended", x.canBe(1), 1);
        CHECK.promise(23);
        CHECK.due("perils() attended", x.perils(), 0);
        x.undo();
        CHECK.due("perils()", x.perils(), 1);
        x.relieve(0, 2);
        CHECK.due("perils() relieved", x.perils(), 0);
        CHECK.due("perils() from the first", Check.loaded(Texts.FOUR.replace("shoal 10 31", "shoal 10 20")).perils(), 2);
        CHECK.refused("perils() of no voyage", NO_VOYAGE, NO_VOYAGE.perils(), -1, 1);
        CHECK.promise(22);
        // Two boys, four sets: one square of each, or some of them the same.
        String two = "voyage from 5 5 clouds 0 idle 0;boy a sly early 0;boy b sly early 0;officer f every 9;"
            + "watch a f north speed 5;watch b f north speed 5;unsure a 5;unsure b 10";
        CHECK.due("canBe(2) of two", Check.loaded(two).canBe(2), 4);
        CHECK.due("canBe(2) of two alike", Check.loaded(two.replace("b 10", "b 5")).canBe(2), 3);
        CHECK.due("canBe(2) of honest ones", Check.loaded(two.replace("sly", "honest")).canBe(2), 1);
        CHECK.promise(23);
        CHECK.due("perils() of two", Check.loaded(two + ";shoal 5 25;shoal 5 15").perils(), 3);
    }

    public static void main(String[] args) {
        places();
        farAndBelow();
        shoals();
        doubts();
        CHECK.end();
    }
}
