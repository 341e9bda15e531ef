/** Promises 6 to 13: what there is of watches, boys and officers, and what is stolen. */
public final class NowTest {
    private static final Check CHECK = new Check();
    private static final int MIN = Integer.MIN_VALUE;
    private static final int MAX = Integer.MAX_VALUE;

    private static void watches() {
        CHECK.promise(6);
        GlassWatch x = Check.loaded(Texts.FOUR);
        int[][] due = {{0, 0, 0, 5, 0, 136}, {1, 1, 1, 4, 0, 0}, {2, 0, 2, 2, 0, 136}, {0, 1, 3, 1, 0, 0}};
        for (int k = 0; k < 4; k++) {
            for (int what = 0; what < 6; what++) {
                CHECK.due("watch(" + k + ", " + what + ")", x.watch(k, what), due[k][what]);
            }
        }
        CHECK.due("trouble()", x.trouble(), 0);
        for (int k : new int[] {-1, 4, 12, MIN, MAX}) CHECK.refused("watch(" + k + ", 0)", x, x.watch(k, 0), -1, 1);
        for (int what : new int[] {-1, 6, MIN, MAX}) CHECK.refused("watch(0, " + what + ")", x, x.watch(0, what), -1, 1);
        x.attend(1);
        x.steer(1, 3);
        x.relieve(1, 0);
        int[] then = {0, 1, 3, 4, 1, 255};
        for (int what = 0; what < 6; what++) CHECK.due("watch(1, " + what + ") then", x.watch(1, what), then[what]);
        int[] looks = {255, 170, 36, 136, 16, 32, 64, 128, 0};
        for (int every = 1; every <= 9; every++) {
            GlassWatch y = Check.loaded(Texts.one("sly", 1, every, 1, ""));
            CHECK.due("looks at every " + every, y.watch(0, 5), looks[every - 1]);
        }
    }

    private static void boys() {
        CHECK.promise(7);
        GlassWatch x = Check.loaded(Texts.FOUR);
        int[][] due = {{1, 10, 9, 140}, {2, 5, 2, 40}, {0, 9, 4, 0}};
        for (int b = 0; b < 3; b++) {
            for (int what = 0; what < 4; what++) CHECK.due("boy(" + b + ", " + what + ")", x.boy(b, what), due[b][what]);
        }
        for (int b : new int[] {-1, 3, 5, MIN, MAX}) CHECK.refused("boy(" + b + ", 0)", x, x.boy(b, 0), -1, 1);
        for (int what : new int[] {-1, 4, MIN, MAX}) CHECK.refused("boy(0, " + what + ")", x, x.boy(0, what), -1, 1);
        x.relieve(3, 1);
        CHECK.due("boy(0, 2) relieved", x.boy(0, 2), 1);
        CHECK.due("boy(0, 3) relieved", x.boy(0, 3), 60);
        CHECK.due("boy(1, 2) relieving", x.boy(1, 2), 10);
        CHECK.due("boy(1, 3) relieving", x.boy(1, 3), 80);
        x.attend(1);
        CHECK.due("boy(1, 3) attended", x.boy(1, 3), 56);
    }

    private static void officers() {
        CHECK.promise(8);
        GlassWatch x = Check.loaded(Texts.FOUR);
        CHECK.due("officer(0, 0)", x.officer(0, 0), 4);
        CHECK.due("officer(0, 1)", x.officer(0, 1), 5);
        CHECK.due("officer(1, 0)", x.officer(1, 0), 9);
        CHECK.due("officer(1, 1)", x.officer(1, 1), 10);
        for (int f : new int[] {-1, 2, MIN, MAX}) CHECK.refused("officer(" + f + ", 0)", x, x.officer(f, 0), -1, 1);
        for (int what : new int[] {-1, 2, MIN, MAX}) CHECK.refused("officer(0, " + what + ")", x, x.officer(0, what), -1, 1);
        GlassWatch y = Check.loaded(Texts.FULL);
        CHECK.due("officer without watches", y.officer(3, 1), 0);
        CHECK.due("officer of all watches", y.officer(0, 1), 4095);
    }

    private static void glasses() {
        CHECK.promise(9);
        GlassWatch x = Check.loaded(Texts.FOUR);
        int[] sly = {10, 10, 10, 0, 10, 10, 10, 0};
        for (int g = 1; g <= 8; g++) {
            CHECK.due("glass(0, " + g + ")", x.glass(0, g), sly[g - 1]);
            CHECK.due("glass(1, " + g + ")", x.glass(1, g), 5);
            CHECK.due("glass(2, " + g + ")", x.glass(2, g), 0);
        }
        x.attend(1);
        for (int g = 1; g <= 8; g++) CHECK.due("glass(1, " + g + ") attended", x.glass(1, g), 2);
        for (int g : new int[] {0, 9, -1, MIN, MAX}) CHECK.refused("glass(0, " + g + ")", x, x.glass(0, g), -1, 2);
        for (int k : new int[] {-1, 4, MIN, MAX}) CHECK.refused("glass(" + k + ", 9)", x, x.glass(k, 9), -1, 1);
    }

    private static void stolen() {
        CHECK.promise(10);
        GlassWatch x = Check.loaded(Texts.FOUR);
        int[] due = {60, 40, 0, 80};
        for (int k = 0; k < 4; k++) CHECK.due("stolen(" + k + ")", x.stolen(k), due[k]);
        for (int k : new int[] {-1, 4, MIN, MAX}) CHECK.refused("stolen(" + k + ")", x, x.stolen(k), -1, 1);
        CHECK.due("bold, every 3, 5", Check.loaded(Texts.one("bold", 5, 3, 1, "")).stolen(0), 6 * 5 + 2 * 2);
        CHECK.due("bold, every 1, 1", Check.loaded(Texts.one("bold", 1, 1, 1, "")).stolen(0), 0);
        CHECK.due("sly, every 8, 20", Check.loaded(Texts.one("sly", 20, 8, 1, "")).stolen(0), 140);
        CHECK.due("honest, every 9, 20", Check.loaded(Texts.one("honest", 20, 9, 1, "")).stolen(0), 0);
        CHECK.promise(11);
        int[] sums = {0, 60, 100, 100, 180};
        for (int n = 0; n <= 4; n++) CHECK.due("stolenBy(" + n + ")", x.stolenBy(n), sums[n]);
        for (int n : new int[] {-1, 5, MIN, MAX}) CHECK.refused("stolenBy(" + n + ")", x, x.stolenBy(n), -1, 2);
        GlassWatch none = new GlassWatch();
        CHECK.refused("stolenBy(9) of none", none, none.stolenBy(9), -1, 1);
    }

    private static void thieves() {
        CHECK.promise(12);
        GlassWatch x = Check.loaded(Texts.FOUR);
        CHECK.due("thief()", x.thief(), 0);
        x.attend(0);
        x.attend(3);
        CHECK.due("thief() attended", x.thief(), 1);
        x.relieve(1, 2);
        CHECK.due("thief() of none, the first", x.thief(), 0);
        CHECK.due("thief() of two alike", Check.loaded(Texts.FULL.replace("watch a f", "watch e f")).thief(), 0);
        GlassWatch none = new GlassWatch();
        CHECK.refused("thief() of none", none, none.thief(), -1, 1);
        CHECK.promise(13);
        CHECK.due("lostWatch() of 160 each", Check.loaded(Texts.FULL).lostWatch(), 1);
        CHECK.due("lostWatch() of 180", Check.loaded(Texts.FOUR).lostWatch(), -2);
        String three = Texts.one("sly", 10, 9, 1, ";watch b f north speed 1;watch b f north speed 1");
        CHECK.due("lostWatch() of 240 just", Check.loaded(three).lostWatch(), 2);
        CHECK.due("lostWatch() of 216", Check.loaded(three.replace("early 10", "early 9")).lostWatch(), -2);
        CHECK.refused("lostWatch() of none", none, none.lostWatch(), -1, 1);
    }

    public static void main(String[] args) {
        watches();
        boys();
        officers();
        glasses();
        stolen();
        thieves();
        CHECK.end();
    }
}
