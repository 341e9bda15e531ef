import java.nio.charset.StandardCharsets;
import java.util.NoSuchElementException;

/** Counts answers that are not as due, and puts texts on the tape. */
final class Check {
    private int wrong;
    private int looked;
    private String promise = "";

    void promise(int number) {
        promise = "promise " + number + ": ";
    }

    /** What follows looks at one sentence of a promise, or of a term that it uses. */
    void sentence(int number, String words) {
        promise = "promise " + number + ", '" + words + "': ";
    }

    void due(String call, long got, long want) {
        looked++;
        if (got != want) {
            wrong++;
            System.out.println(promise + call + " answered " + got + ", due is " + want);
        }
    }

    void due(String call, boolean got, boolean want) {
        due(call, got ? 1 : 0, want ? 1 : 0);
    }

    /** The call was refused by this trouble. */
    void refused(String call, GlassWatch x, long got, long want, int trouble) {
        due(call, got, want);
        due(call + ", trouble", x.trouble(), trouble);
    }

    /** The fault of a text at the place that ^ marks; whatever stands behind it is no matter, but at the end. */
    void fault(int number, String marked) {
        int place = marked.indexOf('^');
        String text = marked.replace("^", "");
        faultAt(number, place, text);
        if (place < text.length()) {
            faultAt(number, place, text + ";voyage from 200 $");
            faultAt(number, place, text + " ;$");
        }
    }

    void faultAt(int number, int place, String text) {
        GlassWatch x = new GlassWatch();
        refused(text, x, load(x, text), -1, 4);
        due("fault() of " + text, x.fault(), number);
        due("where() of " + text, x.where(), place);
    }

    /** A text without a fault. */
    void good(String text) {
        GlassWatch x = new GlassWatch();
        due(text, load(x, text) > 0, true);
        due("fault() of " + text, x.fault(), 0);
    }

    void throwsNone(String call, GlassWatch x, int i) {
        boolean thrown = false;
        try {
            x.led(i);
        } catch (NoSuchElementException e) {
            thrown = true;
        }
        due(call + " throws", thrown, true);
    }

    void end() {
        System.out.println(looked + " answers looked at, " + wrong + " not as due");
        if (wrong != 0 || looked == 0) {
            System.exit(1);
        }
    }

    /** Feeds a text, filled up with blanks, and answers what the last feed answered. */
    static int feed(GlassWatch x, String text) {
        return feed(x, text.getBytes(StandardCharsets.ISO_8859_1));
    }

    static int feed(GlassWatch x, byte[] bytes) {
        int last = 0;
        for (int from = 0; from < bytes.length; from += 20) {
            int[] five = new int[5];
            for (int i = 0; i < 20; i++) {
                int one = from + i < bytes.length ? bytes[from + i] & 255 : 32;
                five[i / 4] = five[i / 4] << 8 | one;
            }
            last = x.feed(five[0], five[1], five[2], five[3], five[4]);
        }
        return last;
    }

    static int load(GlassWatch x, String text) {
        feed(x, text);
        return x.voyage(text.length());
    }

    static GlassWatch loaded(String text) {
        GlassWatch x = new GlassWatch();
        if (load(x, text) < 0) {
            System.out.println("a text of the tests has fault " + x.fault() + " at " + x.where() + ": " + text);
            System.exit(1);
        }
        return x;
    }
}
