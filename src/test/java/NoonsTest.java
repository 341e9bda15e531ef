/** Promises 37 to 39: noons by chance. */
public final class NoonsTest {
    private static final Check CHECK = new Check();
    private static final GlassWatch NO_VOYAGE = new GlassWatch();

    private static void odds(GlassWatch x, int n, int much, long upper, long lower) {
        CHECK.promise(37);
        CHECK.due("odds(" + n + ", " + much + ", false)", x.odds(n, much, false), upper);
        CHECK.due("odds(" + n + ", " + much + ", true)", x.odds(n, much, true), lower);
        CHECK.due("trouble()", x.trouble(), 0);
    }

    private static void mean(GlassWatch x, int n, long upper, long lower) {
        CHECK.promise(38);
        CHECK.due("mean(" + n + ", false)", x.mean(n, false), upper);
        CHECK.due("mean(" + n + ", true)", x.mean(n, true), lower);
        CHECK.due("trouble()", x.trouble(), 0);
    }

    private static GlassWatch clouded(int clouds, int speed, String more) {
        return Check.loaded(Texts.one("sly", 10, 9, speed, more).replace("clouds 50", "clouds " + clouds));
    }

    private static void chances() {
        GlassWatch x = Check.loaded(Texts.FOUR);
        odds(x, 0, 0, 1, 1);
        odds(x, 1, 299, 0, 1);
        odds(x, 1, 300, 1, 1);
        odds(x, 2, 160, 1, 2);
        odds(x, 2, 459, 1, 2);
        odds(x, 2, 460, 1, 1);
        odds(x, 4, 79, 0, 1);
        odds(x, 4, 80, 3, 4);
        odds(x, 4, 30000, 1, 1);
        mean(x, 0, 0, 1);
        mean(x, 1, 300, 1);
        mean(x, 2, 310, 1);
        mean(x, 4, 155, 1);
        odds(clouded(25, 5, ";noon at 1"), 1, 0, 3, 4);
        odds(clouded(100, 5, ";noon at 1"), 1, 0, 0, 1);
        odds(clouded(0, 5, ";noon at 1"), 1, 0, 1, 1);
        odds(clouded(33, 5, ";noon at 1"), 1, 399, 67, 100);
        mean(clouded(33, 5, ";noon at 1"), 1, 132, 1);
        mean(clouded(33, 1, ";noon at 1"), 1, 132, 5);
        mean(clouded(100, 1, ""), 1, 80, 1);
        String four = ";watch b f north speed 1;watch b f north speed 1;watch b f north speed 1"
            + ";noon at 1;noon at 2;noon at 3;noon at 4";
        odds(clouded(1, 1, four), 4, 0, 99, 100);
        odds(clouded(1, 1, four), 4, 319, 99999999, 100000000);
        // Each watch not seen through adds 80: 80 times (1 + 1/100 + 1/10000 + 1/1000000) by a hundredth.
        mean(clouded(1, 1, four), 4, 1010101, 1250000);
    }

    private static void attendedToo() {
        GlassWatch x = clouded(50, 5, ";noon at 1");
        odds(x, 1, 399, 1, 2);
        x.attend(0);
        odds(x, 1, 0, 1, 1);
        mean(x, 1, 0, 1);
    }

    private static void refusals() {
        GlassWatch x = Check.loaded(Texts.FOUR);
        CHECK.promise(37);
        for (int n : new int[] {-1, 5, Integer.MIN_VALUE, Integer.MAX_VALUE}) {
            CHECK.refused("odds(" + n + ")", x, x.odds(n, 0, true), -1, 2);
        }
        for (int much : new int[] {-1, 30001, Integer.MIN_VALUE, Integer.MAX_VALUE}) {
            CHECK.refused("odds(0, " + much + ")", x, x.odds(0, much, false), -1, 2);
        }
        CHECK.refused("odds of no voyage", NO_VOYAGE, NO_VOYAGE.odds(-1, -1, true), -1, 1);
        CHECK.promise(38);
        for (int n : new int[] {-1, 5, Integer.MIN_VALUE, Integer.MAX_VALUE}) {
            CHECK.refused("mean(" + n + ")", x, x.mean(n, true), -1, 2);
        }
        NO_VOYAGE.undo();
        CHECK.refused("mean of no voyage", NO_VOYAGE, NO_VOYAGE.mean(-1, true), -1, 1);
        CHECK.promise(39);
        NO_VOYAGE.undo();
        CHECK.refused("dearest() of no voyage", NO_VOYAGE, NO_VOYAGE.dearest(), -1, 1);
    }

    private static void dearest() {
        CHECK.promise(39);
        CHECK.due("dearest() by none more", Check.loaded(Texts.FOUR).dearest(), -2);
        CHECK.due("dearest() without noons", Check.loaded(Texts.WEST).dearest(), -2);
        String two = Texts.one("sly", 10, 9, 5, ";watch b f north speed 5");
        CHECK.due("dearest(), the first told", Check.loaded(two + ";noon at 2;noon at 1").dearest(), 0);
        CHECK.due("dearest(), the second told", Check.loaded(two + ";noon at 1;noon at 2").dearest(), 1);
        CHECK.due("dearest(), one", Check.loaded(two + ";noon at 1").dearest(), 0);
        // Back by an honest boy's watches: both noons in a row are needed by neither alone.
        String back = "voyage from 50 50 clouds 0 idle 0;boy a sly early 10;boy b honest early 0;officer f every 9;"
            + "watch a f north speed 5;watch b f north speed 5;noon at 1;noon at 2";
        CHECK.due("dearest(), either will do", Check.loaded(back).dearest(), -2);
        // Without its noon it would be less: what is thought too far north goes back too far south.
        String less = "voyage from 50 50 clouds 0 idle 0;boy a sly early 10;officer f every 9;"
            + "watch a f north speed 5;watch a f south speed 5;noon at 1";
        CHECK.due("error(2)", Check.loaded(less).error(2), 400);
        CHECK.due("dearest(), less without it", Check.loaded(less).dearest(), -2);
    }

    public static void main(String[] args) {
        chances();
        attendedToo();
        refusals();
        dearest();
        CHECK.end();
    }
}
