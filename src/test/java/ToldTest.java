/** Promises 52 to 54: watches in which nothing is stolen, sizes, trouble. */
public final class ToldTest {
    private static final Check CHECK = new Check();
    private static final int MIN = Integer.MIN_VALUE;
    private static final int MAX = Integer.MAX_VALUE;

    private static void led() {
        CHECK.promise(52);
        GlassWatch x = Check.loaded(Texts.FOUR);
        CHECK.due("led(0)", x.led(0), 2);
        for (int i : new int[] {-1, 1, MIN, MAX}) CHECK.throwsNone("led(" + i + ")", x, i);
        x.attend(0);
        x.relieve(3, 2);
        CHECK.due("led(0)", x.led(0), 0);
        CHECK.due("led(1)", x.led(1), 2);
        CHECK.due("led(2)", x.led(2), 3);
        CHECK.throwsNone("led(3)", x, 3);
        CHECK.throwsNone("led(0) of none", new GlassWatch(), 0);
        CHECK.throwsNone("led(0) of 160 each", Check.loaded(Texts.FULL), 0);
    }

    private static void sizes() {
        CHECK.promise(53);
        GlassWatch x = Check.loaded(Texts.FOUR.replace("idle 50", "idle 49"));
        int[] due = {50, 49, 3, 2, 4, 2, 2, 1, 1, 0, 0, 0};
        for (int what = 0; what < 12; what++) CHECK.due("size(" + what + ")", x.size(what), due[what]);
        x.attend(0);
        x.steer(0, 3);
        x.image();
        x.feed(0, 0, 0, 0, 0);
        CHECK.due("size(9)", x.size(9), 2);
        CHECK.due("size(10)", x.size(10), 1);
        CHECK.due("size(11)", x.size(11), 20);
        GlassWatch full = Check.loaded(Texts.FULL);
        int[] most = {100, 100, 5, 4, 12, 4, 6, 4, 3};
        for (int what = 0; what < 9; what++) CHECK.due("size(" + what + ") of most", full.size(what), most[what]);
        for (int what : new int[] {-1, 12, MIN, MAX}) {
            CHECK.due("size(" + what + ")", x.size(what), -1);
            CHECK.due("size(" + what + ") of none", new GlassWatch().size(what), -1);
        }
        // A fault leaves a new object without a voyage.
        GlassWatch none = new GlassWatch();
        Check.load(none, Texts.FOUR + ";");
        for (int what = 0; what < 12; what++) CHECK.due("size(" + what + ") of a fault", none.size(what), 0);
    }

    private static void trouble() {
        CHECK.promise(54);
        GlassWatch x = Check.loaded(Texts.FOUR);
        x.glass(0, 9);
        CHECK.due("trouble()", x.trouble(), 2);
        x.size(12);
        x.feed(0, 0, 0, 0, 0);
        x.fault();
        x.where();
        CHECK.throwsNone("led(9)", x, 9);
        CHECK.due("trouble() stays by calls without numbers", x.trouble(), 2);
        CHECK.due("trouble() asked twice", x.trouble(), 2);
        x.glass(0, 8);
        CHECK.due("trouble() of none", x.trouble(), 0);
        x.voyage(5);
        CHECK.due("trouble() of a fault", x.trouble(), 4);
        x.steals(0, true, true, true);
        CHECK.due("trouble() of none", x.trouble(), 0);
        x.image();
        x.image();
        x.image();
        x.image();
        CHECK.due("trouble() of no room", x.trouble(), 3);
        x.led(0);
        CHECK.due("trouble() stays", x.trouble(), 3);
        x.undo();
        CHECK.due("trouble() of none left", x.trouble(), 6);
        x.steer(0, 0);
        CHECK.due("trouble() of not so", x.trouble(), 5);
        x.mean(0, true);
        CHECK.due("trouble() of none", x.trouble(), 0);
    }

    public static void main(String[] args) {
        led();
        sizes();
        trouble();
        CHECK.end();
    }
}
