/** Promises 46 to 51: attending, steering, relieving, undoing, images. */
public final class ActsTest {
    private static final Check CHECK = new Check();
    private static final GlassWatch NO_VOYAGE = new GlassWatch();
    private static final int MIN = Integer.MIN_VALUE;
    private static final int MAX = Integer.MAX_VALUE;

    private static void attending() {
        CHECK.promise(46);
        GlassWatch x = Check.loaded(Texts.FOUR);
        CHECK.due("attend(0)", x.attend(0), 1);
        CHECK.due("trouble()", x.trouble(), 0);
        CHECK.due("stolen(0)", x.stolen(0), 0);
        CHECK.due("watch(0, 5)", x.watch(0, 5), 255);
        CHECK.due("attend(1)", x.attend(1), 1);
        CHECK.due("stolen(1)", x.stolen(1), 16);
        CHECK.due("attend(0), no more", x.attend(0), 0);
        CHECK.due("stolen(0)", x.stolen(0), 60);
        CHECK.due("stolen(1) stays", x.stolen(1), 16);
        CHECK.due("size(9)", x.size(9), 3);
        for (int k : new int[] {-1, 4, 12, MIN, MAX}) CHECK.refused("attend(" + k + ")", x, x.attend(k), -1, 1);
        CHECK.refused("attend(0) of none", NO_VOYAGE, NO_VOYAGE.attend(0), -1, 1);
        CHECK.due("size(9) stays by refusals", x.size(9), 3);
    }

    private static void steering() {
        CHECK.promise(47);
        GlassWatch x = Check.loaded(Texts.FOUR);
        CHECK.due("steer(0, 1)", x.steer(0, 1), true);
        CHECK.due("trouble()", x.trouble(), 0);
        CHECK.due("watch(0, 2)", x.watch(0, 2), 1);
        CHECK.due("at(1, false)", x.at(1, false), 1950);
        CHECK.due("at(1, true)", x.at(1, true), 2050);
        CHECK.refused("steer(0, 1), it is", x, x.steer(0, 1) ? 1 : 0, 0, 5);
        for (int c : new int[] {-1, 4, MIN, MAX}) CHECK.refused("steer(0, " + c + ")", x, x.steer(0, c) ? 1 : 0, 0, 2);
        for (int k : new int[] {-1, 4, MIN, MAX}) CHECK.refused("steer(" + k + ", 9)", x, x.steer(k, 9) ? 1 : 0, 0, 1);
        CHECK.refused("steer(0, 0) of none", NO_VOYAGE, NO_VOYAGE.steer(0, 0) ? 1 : 0, 0, 1);
        CHECK.due("size(9)", x.size(9), 1);
        CHECK.due("steer(0, 0) again", x.steer(0, 0), true);
    }

    private static void relieving() {
        CHECK.promise(48);
        GlassWatch x = Check.loaded(Texts.FOUR);
        CHECK.due("relieve(0, 1)", x.relieve(0, 1), 34);
        CHECK.due("trouble()", x.trouble(), 0);
        CHECK.due("watch(0, 0)", x.watch(0, 0), 1);
        CHECK.refused("relieve(0, 1), it is his", x, x.relieve(0, 1), -1, 5);
        CHECK.due("relieve(2, 0)", x.relieve(2, 0), 60);
        CHECK.due("relieve(0, 2)", x.relieve(0, 2), 0);
        x.attend(0);
        CHECK.due("relieve(0, 1) attended", x.relieve(0, 1), 16);
        for (int b : new int[] {-1, 3, 5, MIN, MAX}) CHECK.refused("relieve(0, " + b + ")", x, x.relieve(0, b), -1, 1);
        for (int k : new int[] {-1, 4, MIN, MAX}) CHECK.refused("relieve(" + k + ", 0)", x, x.relieve(k, 0), -1, 1);
        CHECK.refused("relieve(0, 0) of none", NO_VOYAGE, NO_VOYAGE.relieve(0, 0), -1, 1);
        CHECK.due("size(9)", x.size(9), 5);
    }

    private static void undoing() {
        CHECK.promise(49);
        GlassWatch x = Check.loaded(Texts.FOUR);
        CHECK.refused("undo() of nothing", x, x.undo() ? 1 : 0, 0, 6);
        x.attend(1);
        x.steer(1, 2);
        x.relieve(1, 0);
        x.steer(1, 3);
        CHECK.due("undo()", x.undo(), true);
        CHECK.due("trouble()", x.trouble(), 0);
        CHECK.due("watch(1, 2)", x.watch(1, 2), 2);
        CHECK.due("undo()", x.undo(), true);
        CHECK.due("watch(1, 0)", x.watch(1, 0), 1);
        CHECK.due("undo()", x.undo(), true);
        CHECK.due("watch(1, 2)", x.watch(1, 2), 1);
        CHECK.due("watch(1, 4)", x.watch(1, 4), 1);
        CHECK.due("undo()", x.undo(), true);
        CHECK.due("watch(1, 4)", x.watch(1, 4), 0);
        CHECK.refused("undo() of no more", x, x.undo() ? 1 : 0, 0, 6);
        // Of eighteen acts the first two can't be undone.
        x.steer(3, 0);
        x.attend(3);
        for (int i = 0; i < 16; i++) x.steer(0, i % 2 == 0 ? 2 : 1);
        CHECK.due("size(9) of eighteen", x.size(9), 16);
        for (int i = 0; i < 16; i++) CHECK.due("undo() " + i, x.undo(), true);
        CHECK.refused("undo() of the seventeenth", x, x.undo() ? 1 : 0, 0, 6);
        CHECK.due("watch(0, 2)", x.watch(0, 2), 0);
        CHECK.due("watch(3, 2)", x.watch(3, 2), 0);
        CHECK.due("watch(3, 4)", x.watch(3, 4), 1);
        x.attend(3);
        CHECK.due("size(9)", x.size(9), 1);
    }

    private static void imaging() {
        CHECK.promise(50);
        GlassWatch x = Check.loaded(Texts.FOUR);
        CHECK.due("image()", x.image(), 0);
        x.attend(0);
        x.steer(1, 0);
        x.relieve(2, 1);
        CHECK.due("image()", x.image(), 1);
        CHECK.due("trouble()", x.trouble(), 0);
        CHECK.due("size(9), an image is no act", x.size(9), 3);
        CHECK.promise(51);
        CHECK.refused("back(2)", x, x.back(2) ? 1 : 0, 0, 1);
        CHECK.due("size(9) stays by a refusal", x.size(9), 3);
        CHECK.due("back(0)", x.back(0), true);
        CHECK.due("trouble()", x.trouble(), 0);
        CHECK.due("watch(0, 4)", x.watch(0, 4), 0);
        CHECK.due("watch(1, 2)", x.watch(1, 2), 1);
        CHECK.due("watch(2, 0)", x.watch(2, 0), 2);
        CHECK.due("size(9)", x.size(9), 0);
        CHECK.due("undo()", x.undo(), false);
        CHECK.due("all images stay", x.size(10), 2);
        x.attend(3);
        CHECK.due("back(1)", x.back(1), true);
        CHECK.due("watch(0, 4)", x.watch(0, 4), 1);
        CHECK.due("watch(1, 2)", x.watch(1, 2), 0);
        CHECK.due("watch(2, 0)", x.watch(2, 0), 1);
        CHECK.due("watch(3, 4)", x.watch(3, 4), 0);
        x.steer(1, 3);
        CHECK.due("back(1), an image isn't changed by acts", x.back(1), true);
        CHECK.due("watch(1, 2)", x.watch(1, 2), 0);
        for (int i : new int[] {-1, 3, MIN, MAX}) CHECK.refused("back(" + i + ")", x, x.back(i) ? 1 : 0, 0, 1);
        CHECK.promise(50);
        CHECK.due("image()", x.image(), 2);
        CHECK.refused("image() of a fourth", x, x.image(), -1, 3);
        CHECK.due("size(10)", x.size(10), 3);
        CHECK.refused("image() of none", NO_VOYAGE, NO_VOYAGE.image(), -1, 1);
        CHECK.promise(51);
        CHECK.refused("back(0) of none", NO_VOYAGE, NO_VOYAGE.back(0) ? 1 : 0, 0, 1);
    }

    public static void main(String[] args) {
        attending();
        steering();
        relieving();
        undoing();
        imaging();
        CHECK.end();
    }
}
