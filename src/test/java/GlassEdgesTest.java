/** Promises 6 to 13 at their bounds: who looks, how early by kinds, numbers out of bounds, sums that just do. */
public final class GlassEdgesTest {
    private static final Check CHECK = new Check();
    private static final GlassWatch NO_VOYAGE = new GlassWatch();
    private static final int MIN = Integer.MIN_VALUE;
    private static final int MAX = Integer.MAX_VALUE;
    private static final int[] NO_WATCH = {-1, 12, 13, 32, MIN, MAX};

    /** Watches of sly boys: of seven glasses by officer e (every 8), of eight by officer n (every 9). */
    private static String sly(String... watches) {
        StringBuilder t = new StringBuilder("voyage from 9 9 clouds 0 idle 0;officer e every 8;officer n every 9");
        for (int i = 0; i < watches.length; i++) {
            String[] w = watches[i].split(" ");
            t.append(";boy ").append((char) ('p' + i)).append(" sly early ").append(w[0]);
            t.append(";watch ").append((char) ('p' + i)).append(' ').append(w[1]).append(" east speed 1");
        }
        return t.toString();
    }

    private static void looks() {
        CHECK.sentence(6, "glasses numbered 1 .. 8; an officer LOOKS at glasses whose number his every divides");
        for (int every = 1; every <= 9; every++) {
            GlassWatch x = Check.loaded(Texts.one("sly", 3, every, 1, ""));
            int bits = 0;
            for (int g = every; g <= 8; g += every) bits |= 1 << (g - 1);
            CHECK.due("watch(0, 5), every " + every, x.watch(0, 5), bits);
            for (int g = 1; g <= 8; g++) CHECK.due("glass(0, " + g + "), every " + every, x.glass(0, g), g % every == 0 ? 0 : 3);
        }
        CHECK.sentence(6, "at all of a watch that is ATTENDED");
        for (int every = 1; every <= 9; every++) {
            GlassWatch x = Check.loaded(Texts.one("bold", 3, every, 1, ";watch b f east speed 1"));
            x.attend(0);
            CHECK.due("watch(0, 5) attended", x.watch(0, 5), 255);
            CHECK.due("watch(1, 5) is another one", x.watch(1, 5) == 255, every == 1);
            for (int g = 1; g <= 8; g++) CHECK.due("glass(0, " + g + ") attended", x.glass(0, g), 1);
        }
    }

    private static void kinds() {
        for (int early = 0; early <= 20; early++) {
            GlassWatch[] by = new GlassWatch[6];
            String[] kinds = {"honest", "sly", "bold"};
            for (int i = 0; i < 6; i++) by[i] = Check.loaded(Texts.one(kinds[i / 2], early, i % 2 == 0 ? 9 : 1, 1, ""));
            CHECK.sentence(9, "An honest boy turns each when it has run out");
            CHECK.due("nobody looks, " + early, by[0].glass(0, 1), 0);
            CHECK.due("somebody looks, " + early, by[1].glass(0, 1), 0);
            CHECK.sentence(9, "a sly one so early where nobody LOOKS");
            CHECK.due("nobody looks, " + early, by[2].glass(0, 8), early);
            CHECK.due("somebody looks, " + early, by[3].glass(0, 8), 0);
            CHECK.sentence(9, "a bold one so early, and half so early (downwards) where somebody LOOKS");
            CHECK.due("nobody looks, " + early, by[4].glass(0, 1), early);
            CHECK.due("somebody looks, " + early, by[5].glass(0, 8), early % 2 == 0 ? early / 2 : (early - 1) / 2);
            CHECK.sentence(10, "STOLEN is by how much he is early");
            CHECK.due("stolen(0), sly " + early, by[2].stolen(0), 8 * early);
            CHECK.due("stolen(0), bold, looked at " + early, by[5].stolen(0), 8 * (early / 2));
        }
    }

    private static void watchNumbers() {
        CHECK.sentence(6, "watch, NONE: 1");
        GlassWatch x = Check.loaded(Texts.FULL);
        CHECK.due("watch(11, 3), the last of most", x.watch(11, 3), 9);
        for (int k : NO_WATCH) CHECK.refused("watch(" + k + ", 0)", x, x.watch(k, 0), -1, 1);
        for (int what : new int[] {-1, 6, 7, MIN, MAX}) CHECK.refused("watch(0, " + what + ")", x, x.watch(0, what), -1, 1);
        for (int k : new int[] {-1, 0, 1}) CHECK.refused("watch(" + k + ", 0) of no voyage", NO_VOYAGE, NO_VOYAGE.watch(k, 0), -1, 1);
        GlassWatch one = Check.loaded(Texts.WEST);
        CHECK.due("watch(0, 0) of one", one.watch(0, 0), 0);
        CHECK.due("trouble()", one.trouble(), 0);
        CHECK.refused("watch(1, 0) of one", one, one.watch(1, 0), -1, 1);
        CHECK.sentence(6, "2 its course");
        String[] courses = {"north", "east", "south", "west"};
        for (int c = 0; c < 4; c++) {
            CHECK.due(courses[c], Check.loaded(Texts.WEST.replace("west", courses[c])).watch(0, 2), c);
        }
        CHECK.sentence(6, "3 its speed");
        for (int v = 0; v <= 9; v++) CHECK.due("speed", Check.loaded(Texts.one("sly", 1, 1, v, "")).watch(0, 3), v);
    }

    private static void boyNumbers() {
        CHECK.sentence(7, "boy, NONE: 1");
        GlassWatch x = Check.loaded(Texts.FULL);
        CHECK.due("boy(4, 0), the last of most", x.boy(4, 0), 1);
        for (int b : new int[] {-1, 5, 6, MIN, MAX}) CHECK.refused("boy(" + b + ", 0)", x, x.boy(b, 0), -1, 1);
        for (int what : new int[] {-1, 4, 5, MIN, MAX}) CHECK.refused("boy(0, " + what + ")", x, x.boy(0, what), -1, 1);
        CHECK.refused("boy(0, 0) of no voyage", NO_VOYAGE, NO_VOYAGE.boy(0, 0), -1, 1);
        CHECK.sentence(7, "0 KIND (0 honest, 1 sly, 2 bold)");
        int[] kinds = {2, 1, 0, 2, 1};
        for (int b = 0; b < 5; b++) CHECK.due("boy(" + b + ", 0)", x.boy(b, 0), kinds[b]);
        CHECK.sentence(7, "2 his watches NOW, as bits");
        CHECK.due("of all twelve", x.boy(0, 2), 4095);
        CHECK.due("of none", x.boy(1, 2), 0);
        x.relieve(0, 1);
        x.relieve(11, 1);
        CHECK.due("the first and the last", x.boy(1, 2), 2049);
        CHECK.due("the others", x.boy(0, 2), 4095 - 2049);
        CHECK.sentence(7, "3 what he STOLE in all");
        CHECK.due("in ten watches", x.boy(0, 3), 1600);
        CHECK.due("in two", x.boy(1, 3), 320);
        CHECK.due("in none", x.boy(3, 3), 0);
        CHECK.sentence(7, "1 how early: as told, unsure or not");
        CHECK.due("boy(0, 1)", x.boy(0, 1), 20);
        CHECK.due("boy(4, 1)", x.boy(4, 1), 0);
    }

    private static void officerNumbers() {
        CHECK.sentence(8, "officer, NONE: 1");
        GlassWatch x = Check.loaded(Texts.FULL);
        CHECK.due("officer(3, 0), the last of most", x.officer(3, 0), 8);
        for (int f : new int[] {-1, 4, 5, MIN, MAX}) CHECK.refused("officer(" + f + ", 0)", x, x.officer(f, 0), -1, 1);
        for (int what : new int[] {-1, 2, 3, MIN, MAX}) CHECK.refused("officer(0, " + what + ")", x, x.officer(0, what), -1, 1);
        CHECK.refused("officer(0, 0) of no voyage", NO_VOYAGE, NO_VOYAGE.officer(0, 0), -1, 1);
        CHECK.sentence(8, "1 his watches, as bits");
        CHECK.due("all", x.officer(0, 1), 4095);
        CHECK.due("none", x.officer(1, 1), 0);
        x.attend(0);
        CHECK.due("attended or not", x.officer(0, 1), 4095);
    }

    private static void glassNumbers() {
        CHECK.sentence(9, "a glass (1 .. 8) of a watch. NONE: 1; 2");
        GlassWatch x = Check.loaded(Texts.FULL);
        CHECK.due("glass(0, 1)", x.glass(0, 1), 20);
        CHECK.due("glass(11, 8)", x.glass(11, 8), 20);
        for (int g : new int[] {0, -1, 9, MIN, MAX}) CHECK.refused("glass(11, " + g + ")", x, x.glass(11, g), -1, 2);
        for (int k : NO_WATCH) CHECK.refused("glass(" + k + ", 1)", x, x.glass(k, 1), -1, 1);
        for (int k : NO_WATCH) CHECK.refused("glass(" + k + ", 0), both wrong", x, x.glass(k, 0), -1, 1);
        CHECK.refused("glass(0, 9) of no voyage", NO_VOYAGE, NO_VOYAGE.glass(0, 9), -1, 1);
    }

    private static void sums() {
        CHECK.sentence(10, "stolen, NONE: 1");
        GlassWatch x = Check.loaded(Texts.FULL);
        CHECK.due("stolen(11), the most of a watch", x.stolen(11), 160);
        for (int k : NO_WATCH) CHECK.refused("stolen(" + k + ")", x, x.stolen(k), -1, 1);
        CHECK.refused("stolen(0) of no voyage", NO_VOYAGE, NO_VOYAGE.stolen(0), -1, 1);
        CHECK.sentence(11, "in the first n watches (0 .. all)");
        CHECK.due("stolenBy(0)", x.stolenBy(0), 0);
        CHECK.due("stolenBy(1)", x.stolenBy(1), 160);
        CHECK.due("stolenBy(12), the most of all", x.stolenBy(12), 1920);
        CHECK.sentence(11, "NONE: 1 (no VOYAGE); 2");
        for (int n : new int[] {-1, 13, MIN, MAX}) CHECK.refused("stolenBy(" + n + ")", x, x.stolenBy(n), -1, 2);
        for (int n : new int[] {-1, 0, 1, MAX}) CHECK.refused("stolenBy(" + n + ") of no voyage", NO_VOYAGE, NO_VOYAGE.stolenBy(n), -1, 1);
        GlassWatch one = Check.loaded(Texts.WEST);
        CHECK.due("stolenBy(1) of one", one.stolenBy(1), 0);
        CHECK.refused("stolenBy(2) of one", one, one.stolenBy(2), -1, 2);
    }

    private static void thief() {
        CHECK.sentence(12, "The boy who STOLE most, the first such");
        CHECK.due("nobody stole: the first", Check.loaded(Texts.WEST).thief(), 0);
        CHECK.due("two alike: the first", Check.loaded(sly("0 n", "5 n", "5 n")).thief(), 1);
        CHECK.due("119 against 120", Check.loaded(sly("17 e", "15 n")).thief(), 1);
        CHECK.due("120 against 119", Check.loaded(sly("15 n", "17 e")).thief(), 0);
        CHECK.due("the last", Check.loaded(sly("1 n", "2 n", "3 n", "4 n", "5 n")).thief(), 4);
        GlassWatch x = Check.loaded(sly("5 n", "9 n"));
        CHECK.due("the second", x.thief(), 1);
        x.relieve(1, 0);
        CHECK.due("who keeps it NOW", x.thief(), 0);
        x.relieve(0, 1);
        CHECK.due("each keeps the other's", x.thief(), 1);
        CHECK.sentence(12, "NONE: 1 (no VOYAGE)");
        NO_VOYAGE.undo();
        CHECK.refused("thief()", NO_VOYAGE, NO_VOYAGE.thief(), -1, 1);
    }

    private static void lostWatch() {
        CHECK.sentence(13, "as much is STOLEN as a whole one has (240) or more");
        CHECK.due("239", Check.loaded(sly("17 e", "15 n")).stolenBy(2), 239);
        CHECK.due("lostWatch() of 239", Check.loaded(sly("17 e", "15 n")).lostWatch(), -2);
        CHECK.due("lostWatch() of 240", Check.loaded(sly("15 n", "15 n")).lostWatch(), 1);
        CHECK.due("lostWatch() of 241", Check.loaded(sly("15 e", "17 n")).lostWatch(), 1);
        CHECK.due("lostWatch() of 239, then more", Check.loaded(sly("17 e", "15 n", "0 n", "1 n")).lostWatch(), 3);
        CHECK.due("lostWatch() of 240, then none", Check.loaded(sly("15 n", "15 n", "0 n", "9 n")).lostWatch(), 1);
        GlassWatch full = Check.loaded(Texts.FULL.replace("boy a bold early 20", "boy a bold early 5"));
        CHECK.due("lostWatch() of 40 each", full.lostWatch(), 5);
        GlassWatch last = Check.loaded(Texts.FULL.replace("boy a bold early 20", "boy a sly early 20"));
        for (int k = 0; k < 10; k++) last.attend(k);
        CHECK.due("lostWatch() of the last", last.lostWatch(), 11);
        last.attend(10);
        CHECK.due("lostWatch() of 160", last.lostWatch(), -2);
        CHECK.sentence(13, "NONE: 1 (no VOYAGE)");
        NO_VOYAGE.undo();
        CHECK.refused("lostWatch()", NO_VOYAGE, NO_VOYAGE.lostWatch(), -1, 1);
    }

    public static void main(String[] args) {
        looks();
        kinds();
        watchNumbers();
        boyNumbers();
        officerNumbers();
        glassNumbers();
        sums();
        thief();
        lostWatch();
        CHECK.end();
    }
}
