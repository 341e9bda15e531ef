/**
 * Promises 43 to 45: idle boys by draws. From 0 the draws are, mod 100: 74 24 52 90 41 9 31 44, then
 * 4 50 39 86 34 96 57 40, then 68 9 85 62 87 16 67 37.
 */
public final class IdleTest {
    private static final Check CHECK = new Check();
    private static final GlassWatch NO_VOYAGE = new GlassWatch();
    private static final int MIN = Integer.MIN_VALUE;
    private static final int MAX = Integer.MAX_VALUE;

    private static GlassWatch idle(int idle, String kind, int early, int every) {
        return Check.loaded(Texts.one(kind, early, every, 5, "").replace("idle 50", "idle " + idle));
    }

    private static void stolen() {
        CHECK.promise(43);
        GlassWatch x = Check.loaded(Texts.one("sly", 10, 9, 9, ";watch b f north speed 0"));
        CHECK.due("idled(0, 0)", x.idled(0, 0), 0);
        CHECK.due("idled(0, 1)", x.idled(0, 1), 30);
        CHECK.due("idled(0, 2)", x.idled(0, 2), 70);
        CHECK.due("idled(9344, 1)", x.idled(9344, 1), 40);
        CHECK.due("idled(65536, 2)", x.idled(65536, 2), 0);
        CHECK.due("trouble()", x.trouble(), 0);
        CHECK.due("idle 0", idle(0, "sly", 10, 9).idled(0, 1), 80);
        CHECK.due("idle 100", idle(100, "sly", 10, 9).idled(0, 1), 0);
        CHECK.due("idle 52, a draw of 52", idle(52, "sly", 10, 9).idled(0, 1), 30);
        CHECK.due("idle 53, a draw of 52", idle(53, "sly", 10, 9).idled(0, 1), 20);
        CHECK.due("idle 36 by 65536", idle(36, "sly", 10, 9).idled(65536, 1), 80);
        CHECK.due("idle 37 by 65536", idle(37, "sly", 10, 9).idled(65536, 1), 0);
        // No draw where he wouldn't be early: every fourth glass of a sly boy, and of a bold one by halves of 1.
        CHECK.due("sly, every 4", idle(50, "sly", 10, 4).idled(0, 1), 30);
        CHECK.due("bold, every 4", idle(50, "bold", 5, 4).idled(0, 1), 12);
        CHECK.due("bold, every 3", idle(50, "bold", 5, 3).idled(0, 1), 12);
        CHECK.due("bold by 1, every 4", idle(50, "bold", 1, 4).idled(0, 1), 3);
        CHECK.due("honest", idle(0, "honest", 9, 9).idled(0, 1), 0);
        x.attend(0);
        CHECK.due("idled(0, 2), the first attended", x.idled(0, 2), 30);
        CHECK.due("stolen by no draws stays", x.stolenBy(2), 80);
    }

    private static void squares() {
        CHECK.promise(44);
        GlassWatch x = Check.loaded(Texts.one("sly", 10, 9, 9, ";watch b f east speed 5"));
        CHECK.due("squareBy(0, 0)", x.squareBy(0, 0), 305305);
        CHECK.due("squareBy(0, 1)", x.squareBy(0, 1), 305324);
        CHECK.due("squareBy(0, 2)", x.squareBy(0, 2), 315324);
        CHECK.due("squareBy(65536, 1)", x.squareBy(65536, 1), 305327);
        CHECK.due("trouble()", x.trouble(), 0);
        CHECK.due("the square by no draws stays", x.square(1), 305319);
    }

    private static void wrecks() {
        CHECK.promise(45);
        String text = Texts.one("sly", 10, 9, 9, ";watch b f north speed 0");
        GlassWatch x = Check.loaded(text + ";shoal 5 24;shoal 5 22");
        CHECK.due("wrecks(0, 0)", x.wrecks(0, 0), 0);
        CHECK.due("wrecks(0, 1)", x.wrecks(0, 1), 1);
        CHECK.due("wrecks(0, 2), all its watches drawn", x.wrecks(0, 2), 2);
        CHECK.due("trouble()", x.trouble(), 0);
        CHECK.due("wrecks(0, 2), the second alone", Check.loaded(text + ";shoal 5 22").wrecks(0, 2), 1);
        CHECK.due("wrecks(0, 1), not the second", Check.loaded(text + ";shoal 5 22").wrecks(0, 1), 0);
        CHECK.due("wrecks(7, 20) from the first", Check.loaded(text + ";shoal 5 5").wrecks(7, 20), 20);
        CHECK.due("wrecks(7, 20) nowhere", Check.loaded(text).wrecks(7, 20), 0);
        CHECK.due("wrecks(65536, 20)", Check.loaded(text + ";shoal 5 27").wrecks(65536, 20), 20);
    }

    private static void refusals() {
        GlassWatch x = Check.loaded(Texts.FOUR);
        for (int seed : new int[] {-1, 65537, MIN, MAX}) refuse(x, seed, 0, 2);
        for (int n : new int[] {-1, 21, MIN, MAX}) refuse(x, 0, n, 2);
        NO_VOYAGE.undo();
        refuse(NO_VOYAGE, -1, -1, 1);
        CHECK.promise(43);
        CHECK.refused("idled(0, 5)", x, x.idled(0, 5), -1, 2);
        CHECK.promise(44);
        CHECK.refused("squareBy(0, 5)", x, x.squareBy(0, 5), -1, 2);
    }

    private static void refuse(GlassWatch x, int seed, int n, int trouble) {
        CHECK.promise(43);
        CHECK.refused("idled(" + seed + ", " + n + ")", x, x.idled(seed, n), -1, trouble);
        x.undo();
        CHECK.promise(44);
        CHECK.refused("squareBy(" + seed + ", " + n + ")", x, x.squareBy(seed, n), -1, trouble);
        x.undo();
        CHECK.promise(45);
        CHECK.refused("wrecks(" + seed + ", " + n + ")", x, x.wrecks(seed, n), -1, trouble);
    }

    public static void main(String[] args) {
        stolen();
        squares();
        wrecks();
        refusals();
        CHECK.end();
    }
}
