import java.util.NoSuchElementException;

/** All that a voyage's state shows, as a text, so that two states can be held against each other. */
final class View {
    private View() { }

    /** What there is, the troubles apart: asking for it is a call that may be refused. */
    static String of(GlassWatch x) {
        StringBuilder t = new StringBuilder("fault " + x.fault() + " sizes");
        for (int what = 0; what < 12; what++) t.append(' ').append(x.size(what));
        for (int k = 0; k < x.size(4); k++) {
            t.append(" watch");
            for (int what = 0; what < 6; what++) t.append(' ').append(x.watch(k, what));
        }
        for (int b = 0; b < x.size(2); b++) {
            t.append(" boy");
            for (int what = 0; what < 4; what++) t.append(' ').append(x.boy(b, what));
        }
        for (int f = 0; f < x.size(3); f++) t.append(" officer ").append(x.officer(f, 0)).append(' ').append(x.officer(f, 1));
        for (int n = 0; n <= x.size(4); n++) {
            t.append(" after ").append(x.square(n)).append(' ').append(x.thought(n, true)).append(' ').append(x.error(n));
        }
        t.append(" else ").append(x.strikes()).append(' ').append(x.perils()).append(' ').append(x.fits());
        t.append(' ').append(x.judge()).append(' ').append(x.mean(Math.max(x.size(4), 0), false));
        return t.toString();
    }

    /** The view of every act undone, one behind the other; nothing is left to undo then. */
    static String undone(GlassWatch x) {
        StringBuilder t = new StringBuilder(of(x));
        for (int i = 0; i < 20 && x.undo(); i++) t.append(" | ").append(of(x));
        return t.toString();
    }

    static int led(GlassWatch x, int i) {
        try {
            return x.led(i);
        } catch (NoSuchElementException e) {
            return -1;
        }
    }
}
