/** Promises 30 to 36: how early boys can have been, and where to take a fix. */
public final class UnsureTest {
    private static final Check CHECK = new Check();
    private static final GlassWatch NO_VOYAGE = new GlassWatch();

    /** After one watch 17 (or 15 by a), after two 29, 27 by a, 25 by b, 23 by both. */
    private static final String TWO = "voyage from 5 5 clouds 0 idle 0;boy a sly early 0;boy b sly early 0;"
        + "officer f every 9;watch a f north speed 5;watch b f north speed 5;watch a f east speed 0;"
        + "unsure a 5;unsure b 10";

    private static void answers(String more, int[] fits, int could, int surely, int[] fix, int judge) {
        GlassWatch x = Check.loaded(TWO + more);
        answersOf(x, more, fits, could, surely, fix, judge);
        // Fits are by what is told, whatever is attended, steered or relieved now.
        x.attend(0);
        x.steer(1, 2);
        x.relieve(0, 1);
        answersOf(x, more + " after acts", fits, could, surely, fix, judge);
    }

    private static void answersOf(GlassWatch x, String more, int[] fits, int could, int surely, int[] fix, int judge) {
        CHECK.promise(30);
        CHECK.due("fits()" + more, x.fits(), fits.length);
        CHECK.promise(31);
        for (int i = 0; i < fits.length; i++) CHECK.due("fitAt(" + i + ")" + more, x.fitAt(i), fits[i]);
        CHECK.due("trouble()", x.trouble(), 0);
        for (int i : new int[] {-1, fits.length, 16, Integer.MIN_VALUE, Integer.MAX_VALUE}) {
            CHECK.refused("fitAt(" + i + ")" + more, x, x.fitAt(i), -1, 1);
        }
        CHECK.promise(32);
        CHECK.due("could()" + more, x.could(), could);
        CHECK.promise(33);
        CHECK.due("surely()" + more, x.surely(), surely);
        CHECK.promise(34);
        CHECK.due("fix()" + more, x.fix(), fix[0]);
        CHECK.promise(35);
        CHECK.due("fixLeaves()" + more, x.fixLeaves(), fix[1]);
        CHECK.promise(36);
        CHECK.due("judge()" + more, x.judge(), judge);
    }

    private static void none() {
        CHECK.promise(30);
        CHECK.refused("fits()", NO_VOYAGE, NO_VOYAGE.fits(), -1, 1);
        NO_VOYAGE.undo();
        CHECK.promise(31);
        CHECK.refused("fitAt(0)", NO_VOYAGE, NO_VOYAGE.fitAt(0), -1, 1);
        NO_VOYAGE.undo();
        CHECK.promise(32);
        CHECK.refused("could()", NO_VOYAGE, NO_VOYAGE.could(), -1, 1);
        NO_VOYAGE.undo();
        CHECK.promise(33);
        CHECK.refused("surely()", NO_VOYAGE, NO_VOYAGE.surely(), -1, 1);
        NO_VOYAGE.undo();
        CHECK.promise(34);
        CHECK.refused("fix()", NO_VOYAGE, NO_VOYAGE.fix(), -1, 1);
        NO_VOYAGE.undo();
        CHECK.promise(35);
        CHECK.refused("fixLeaves()", NO_VOYAGE, NO_VOYAGE.fixLeaves(), -1, 1);
        NO_VOYAGE.undo();
        CHECK.promise(36);
        CHECK.refused("judge()", NO_VOYAGE, NO_VOYAGE.judge(), -1, 1);
    }

    public static void main(String[] args) {
        answers("", new int[] {0, 1, 2, 3}, 3, 0, new int[] {2, 1}, -2);
        answers(";found 0 at 5 5", new int[] {0, 1, 2, 3}, 3, 0, new int[] {2, 1}, -2);
        answers(";found 1 at 5 15", new int[] {1, 3}, 3, 1, new int[] {2, 1}, 0);
        answers(";found 1 at 5 17", new int[] {0, 2}, 2, 0, new int[] {2, 1}, -2);
        answers(";found 2 at 5 25", new int[] {2}, 2, 2, new int[] {0, 1}, 0);
        answers(";found 3 at 5 23;found 1 at 5 15", new int[] {3}, 3, 3, new int[] {0, 1}, 0);
        answers(";found 1 at 5 17;found 2 at 5 25", new int[] {2}, 2, 2, new int[] {0, 1}, 1);
        answers(";found 2 at 5 25;found 1 at 5 17", new int[] {2}, 2, 2, new int[] {0, 1}, 0);
        answers(";found 2 at 0 0", new int[] {}, 0, 0, new int[] {-2, -2}, 0);
        answers(";found 1 at 5 17;found 2 at 5 27", new int[] {}, 0, 0, new int[] {-2, -2}, 1);
        CHECK.promise(34);
        // 29 alone, 27 by either, 25 by both: at most two are left after two watches, three sets being told apart.
        GlassWatch like = Check.loaded(TWO.replace("unsure b 10", "unsure b 5"));
        CHECK.due("fix() of like ones", like.fix(), 1);
        CHECK.promise(35);
        CHECK.due("fixLeaves() of like ones", like.fixLeaves(), 2);
        GlassWatch last = Check.loaded(TWO.replace("watch a f east speed 0;", ""));
        CHECK.promise(34);
        CHECK.due("fix() at the end", last.fix(), 2);
        CHECK.promise(35);
        CHECK.due("fixLeaves() at the end", last.fixLeaves(), 1);
        GlassWatch still = Check.loaded(TWO.replace("speed 5", "speed 0"));
        CHECK.promise(34);
        CHECK.due("fix() that tells nothing", still.fix(), 0);
        CHECK.promise(35);
        CHECK.due("fixLeaves() of all", still.fixLeaves(), 4);
        CHECK.promise(30);
        CHECK.due("fits() of four", Check.loaded(Texts.FULL.substring(0, Texts.FULL.indexOf(";found"))).fits(), 16);
        CHECK.due("fits() without unsure ones", Check.loaded(Texts.WEST).fits(), 1);
        none();
        CHECK.end();
    }
}
