import java.nio.charset.StandardCharsets;

/** The text of a voyage at its bounds (term I): tokens, WHOLES, rooms, names, and faults that meet. */
public final class TextEdgesTest {
    private static final Check CHECK = new Check();
    private static final String BEGUN = "voyage from 0 0 clouds 0 idle 0";
    private static final String CREW = BEGUN + ";boy b sly early 1;officer f every 1";
    private static final String READY = CREW + ";watch b f east speed 1";
    private static final String TWELVE = READY + ";watch b f east speed 1".repeat(11);
    private static final String[] BEGINNINGS = {"voyage", "boy", "officer", "watch", "noon", "shoal", "unsure", "found"};

    private static void blanks() {
        CHECK.sentence(3, "blanks, 32, part TOKENS and mean nothing else");
        CHECK.good("  " + READY);
        CHECK.good(READY + "  ");
        CHECK.good(READY.replace(" ", "    ").replace(";", "  ;  "));
        CHECK.good("voyage from0 0clouds0idle0;boy b sly early1;officer f every1;watch b f east speed1");
        CHECK.fault(1, "^voy age from 0 0 clouds 0 idle 0");
        CHECK.fault(1, "^voyagefrom 0 0");
        CHECK.fault(1, "voyage from 0 0 clouds 1 ^0 idle 0");
        CHECK.fault(1, "voyage from 00 ^clouds 0");
        CHECK.fault(1, READY.replace("boy b sly early", "boy bsly ^early"));
        CHECK.fault(4, "     voyage   from  ^200");
    }

    private static void faultOfBytes(int number, int place, String text) {
        GlassWatch x = new GlassWatch();
        byte[] bytes = text.getBytes(StandardCharsets.ISO_8859_1);
        Check.feed(x, bytes);
        CHECK.refused("byte " + (int) text.charAt(Math.min(place, text.length() - 1)), x, x.voyage(bytes.length), -1, 4);
        CHECK.due("fault()", x.fault(), number);
        CHECK.due("where()", x.where(), place);
    }

    private static void everyByte() {
        CHECK.sentence(4, "the first byte that begins no TOKEN, or TOKEN with which no VOYAGE goes on");
        String spaced = "voyage from 0 0 ";
        for (int sign = 0; sign < 256; sign++) {
            if (sign == ' ') continue;
            String one = String.valueOf((char) sign);
            faultOfBytes(1, 0, one + " " + READY);
            if (sign != ';') faultOfBytes(1, READY.length() + 1, READY + " " + one + "$");
            faultOfBytes(1, spaced.length(), spaced + one + " 0");
            boolean goesOn = sign == ';' || sign >= '0' && sign <= '9';
            if (!goesOn) faultOfBytes(1, READY.length(), READY + one);
        }
        CHECK.good(READY + " ");
    }

    private static void words() {
        CHECK.sentence(4, "WORDS of 1 to 8 small letters that stand together");
        for (int length = 1; length <= 12; length++) {
            String name = "q".repeat(length);
            String boy = BEGUN + ";boy " + (length > 8 ? "^" : "") + name + " sly early 1";
            if (length > 8) CHECK.fault(1, boy);
            if (length <= 8) CHECK.good(boy + ";officer f every 1;watch " + name + " f east speed 1");
            String officer = BEGUN + ";officer " + (length > 8 ? "^" : "") + name + " every 1";
            if (length > 8) CHECK.fault(1, officer);
            if (length <= 8) CHECK.good(officer + ";boy b sly early 1;watch b " + name + " east speed 1");
            if (length > 8) CHECK.fault(1, READY + ";watch ^" + name + " f east speed 1");
            if (length > 8) CHECK.fault(1, READY + ";unsure ^" + name + " 1");
        }
        CHECK.fault(1, READY + ";noon ^atatatata 1");
        CHECK.fault(1, BEGUN + ";boy ^B sly early 1");
        CHECK.fault(1, BEGUN + ";boy b^B sly early 1");
        CHECK.fault(1, BEGUN + ";boy b^1 sly early 1");
        CHECK.fault(1, BEGUN + ";boy b^_ sly early 1");
        CHECK.fault(1, BEGUN + ";boy ^`");
        CHECK.fault(1, BEGUN + ";boy ^{");
        // The first and the last small letter.
        CHECK.good(BEGUN + ";boy aaaaaaaa sly early 1;officer zzzzzzzz every 1;watch aaaaaaaa zzzzzzzz east speed 1");
    }

    private static void wholes() {
        CHECK.sentence(4, "WHOLES of 1 to 3 digits that do");
        CHECK.good(READY + ";shoal 0 9;shoal 00 10;shoal 000 008;shoal 099 199");
        CHECK.good(TWELVE.replace("early 1", "early 020").replace("every 1", "every 009") + ";noon at 012");
        CHECK.fault(1, READY + ";shoal ^0000 1");
        CHECK.fault(1, READY + ";shoal ^0001 1");
        CHECK.fault(1, READY + ";shoal 1 ^1000");
        CHECK.fault(1, READY + ";shoal ^4294967296 1");
        CHECK.fault(1, READY + ";noon at ^0001");
        CHECK.fault(1, "voyage from ^0199");
        CHECK.fault(4, READY + ";shoal ^999 1");
        CHECK.fault(1, READY + ";shoal ^/ 1");
        CHECK.fault(1, READY + ";shoal ^: 1");
        CHECK.fault(1, READY + ";shoal ^-1 1");
        CHECK.fault(1, READY + ";shoal ^+1 1");
    }

    private static void lines() {
        CHECK.sentence(4, "LINE {; LINE}, single ones of ;");
        CHECK.fault(1, "^;" + READY);
        CHECK.fault(1, BEGUN + ";^;" + "boy b sly early 1");
        CHECK.fault(1, BEGUN + "; ^;");
        CHECK.fault(1, READY + ";^");
        CHECK.fault(1, READY + " ; ^");
        CHECK.fault(1, READY + ";^;");
        CHECK.fault(1, BEGUN + " ^boy b sly early 1");
        String[] more = {"boy c honest early 2", "boy d bold early 2", "officer g every 2", "watch b f north speed 2",
            "watch b f south speed 2", "watch b f west speed 2", "noon at 1", "shoal 1 2", "unsure b 2", "found 1 at 2 3"};
        for (String line : more) {
            String[] tokens = line.split(" ");
            String cut = READY + ";";
            for (int i = 0; i < tokens.length; i++) {
                String rest = line.substring(line.indexOf(" ") + 1);
                if (i > 0) CHECK.fault(1, cut + "^;" + rest);
                if (i > 0) CHECK.fault(1, cut + "^");
                boolean digits = Character.isDigit(tokens[i].charAt(0));
                CHECK.fault(1, cut + (digits ? "^at" : "^1") + (digits && tokens[0].equals("unsure") ? " 1" : ""));
                cut += tokens[i] + (i + 1 < tokens.length ? " " : "");
            }
            CHECK.good(cut);
            CHECK.fault(1, cut + " ^9");
            CHECK.fault(1, cut + " ^b");
        }
        String[] tokens = BEGUN.split(" ");
        String cut = "";
        for (int i = 0; i < tokens.length; i++) {
            CHECK.fault(1, cut + "^");
            CHECK.fault(1, cut + "^;");
            CHECK.fault(1, cut + (Character.isDigit(tokens[i].charAt(0)) ? "^from" : "^1"));
            cut += tokens[i] + (i + 1 < tokens.length ? " " : "");
        }
    }

    /** A WHOLE from its least to its most is fine, beyond both it is out of bounds. */
    private static void bounds(String ahead, int least, int most, String behind) {
        CHECK.good(ahead + least + behind);
        CHECK.good(ahead + most + behind);
        if (least > 0) CHECK.faultAt(4, ahead.length(), ahead + (least - 1) + behind);
        CHECK.faultAt(4, ahead.length(), ahead + (most + 1) + behind);
        CHECK.faultAt(4, ahead.length(), ahead + 999 + behind);
        CHECK.faultAt(4, ahead.length(), ahead + (most + 1));
    }

    private static void boundsOfWholes() {
        String rest = TWELVE.substring(TWELVE.indexOf(';'));
        CHECK.sentence(4, "voyage from WHOLE WHOLE: 0 .. 199 each");
        bounds("voyage from ", 0, 199, " 0 clouds 0 idle 0" + rest);
        bounds("voyage from 0 ", 0, 199, " clouds 0 idle 0" + rest);
        CHECK.sentence(4, "clouds WHOLE idle WHOLE: 0 .. 100 in a hundred each");
        bounds("voyage from 0 0 clouds ", 0, 100, " idle 0" + rest);
        bounds("voyage from 0 0 clouds 0 idle ", 0, 100, rest);
        CHECK.sentence(4, "early WHOLE: 0 .. 20 minutes");
        bounds(BEGUN + ";boy b sly early ", 0, 20, ";officer f every 1;watch b f east speed 1");
        CHECK.sentence(4, "every WHOLE: 1 .. 9");
        bounds(BEGUN + ";boy b sly early 1;officer f every ", 1, 9, ";watch b f east speed 1");
        CHECK.sentence(4, "speed WHOLE: 0 .. 9");
        bounds(CREW + ";watch b f east speed ", 0, 9, "");
        CHECK.sentence(4, "noon at WHOLE: 1 .. 12");
        bounds(TWELVE + ";noon at ", 1, 12, "");
        CHECK.sentence(4, "shoal WHOLE WHOLE: 0 .. 199 each");
        bounds(READY + ";shoal ", 0, 199, " 0");
        bounds(READY + ";shoal 0 ", 0, 199, "");
        CHECK.sentence(4, "unsure BOY WHOLE: 0 .. 20");
        bounds(READY + ";unsure b ", 0, 20, "");
        CHECK.sentence(4, "found WHOLE at WHOLE WHOLE: 0 .. 12; 0 .. 199 each");
        bounds(TWELVE + ";found ", 0, 12, " at 0 0");
        bounds(TWELVE + ";found 0 at ", 0, 199, " 0");
        bounds(TWELVE + ";found 0 at 0 ", 0, 199, "");
    }

    /** So many lines are fine; one more is a fault at its first word, whatever else is wrong with it. */
    private static void room(String ahead, String[] lines, int room, int what, String word) {
        String text = ahead;
        for (int i = 0; i < room; i++) text += ";" + lines[i];
        GlassWatch x = Check.loaded(text);
        CHECK.due("size(" + what + ")", x.size(what), room);
        CHECK.fault(5, text + ";^" + lines[room]);
        CHECK.fault(5, text + " ; ^" + lines[0]);
        CHECK.fault(5, text + ";^" + word);
        CHECK.fault(5, text + ";^" + word + " $");
        CHECK.fault(5, text + ";^" + word + " 999 999");
    }

    private static void rooms() {
        CHECK.sentence(4, "boys: up to 5");
        room(READY, new String[] {"boy m sly early 1", "boy n sly early 1", "boy o sly early 1", "boy p sly early 1",
            "boy q sly early 1"}, 4, 2, "boy", 5);
        CHECK.sentence(4, "officers: up to 4");
        room(READY, new String[] {"officer m every 1", "officer n every 1", "officer o every 1", "officer p every 1"},
            3, 3, "officer", 4);
        CHECK.sentence(4, "watches: up to 12");
        String[] watches = new String[13];
        java.util.Arrays.fill(watches, "watch b f west speed 1");
        room(CREW, watches, 12, 4, "watch");
        CHECK.sentence(4, "noons: up to 4");
        room(TWELVE, new String[] {"noon at 1", "noon at 12", "noon at 2", "noon at 3", "noon at 4"}, 4, 5, "noon");
        CHECK.sentence(4, "shoals: up to 6");
        room(READY, new String[] {"shoal 0 0", "shoal 0 1", "shoal 1 0", "shoal 1 1", "shoal 2 0", "shoal 0 2",
            "shoal 2 2"}, 6, 6, "shoal");
        CHECK.sentence(4, "unsure ones: up to 4");
        String boys = ";boy m sly early 1;boy n sly early 1;boy o sly early 1;boy p sly early 1";
        room(READY + boys, new String[] {"unsure b 1", "unsure m 1", "unsure n 1", "unsure o 1", "unsure p 1"},
            4, 7, "unsure");
        CHECK.sentence(4, "found ones: up to 3");
        room(TWELVE, new String[] {"found 0 at 0 0", "found 12 at 0 0", "found 1 at 0 0", "found 2 at 0 0"}, 3, 8, "found");
    }

    /** As above, of a sort of which there are some ahead. */
    private static void room(String ahead, String[] lines, int more, int what, String word, int in) {
        String text = ahead;
        for (int i = 0; i < more; i++) text += ";" + lines[i];
        CHECK.due("size(" + what + ")", Check.loaded(text).size(what), in);
        CHECK.fault(5, text + ";^" + lines[more]);
        CHECK.fault(5, text + ";^" + lines[0]);
        CHECK.fault(5, text + ";^" + word);
        CHECK.fault(5, text + ";^" + word + " voyage");
    }

    private static void names() {
        CHECK.sentence(4, "NAMES are WORDS but voyage, boy, officer, watch, noon, shoal, unsure, found");
        for (String word : BEGINNINGS) {
            CHECK.fault(1, BEGUN + ";boy ^" + word + " sly early 1");
            CHECK.fault(1, BEGUN + ";officer ^" + word + " every 1");
            CHECK.fault(1, READY + ";watch ^" + word + " f east speed 1");
            CHECK.fault(1, READY + ";watch b ^" + word + " east speed 1");
            CHECK.fault(1, READY + ";unsure ^" + word + " 1");
            CHECK.good(READY.replace("b ", word.substring(1) + "x ").replace("f ", "x" + word.substring(1) + " "));
        }
        String[] others = {"from", "clouds", "idle", "early", "every", "speed", "at", "honest", "sly", "bold", "north",
            "east", "south", "west"};
        for (int i = 0; i < others.length; i++) {
            String boy = others[i];
            String officer = others[(i + 1) % others.length];
            CHECK.good(BEGUN + ";boy " + boy + " sly early 1;officer " + officer + " every 1;watch " + boy + " " + officer
                + " east speed 1;unsure " + boy + " 1");
        }
        CHECK.sentence(4, "a NAME that isn't told, or is of another sort than must stand there; at it");
        CHECK.fault(2, CREW + ";watch ^c f east speed 1");
        CHECK.fault(2, CREW + ";watch b ^g east speed 1");
        CHECK.fault(2, CREW + ";watch ^f f east speed 1");
        CHECK.fault(2, CREW + ";watch b ^b east speed 1");
        CHECK.fault(2, CREW + ";watch ^bb f east speed 1");
        CHECK.fault(2, READY + ";unsure ^g 1");
        CHECK.fault(2, READY + ";unsure ^f 1");
        CHECK.fault(2, READY + ";unsure ^f 999");
        CHECK.sentence(4, "each told once, ahead of its use");
        CHECK.fault(2, BEGUN + ";officer f every 1;watch ^b f east speed 1;boy b sly early 1");
        CHECK.fault(2, BEGUN + ";boy b sly early 1;watch b ^f east speed 1;officer f every 1");
        CHECK.fault(2, READY + ";unsure ^c 1;boy c sly early 1");
        CHECK.good(READY + ";boy c sly early 1;unsure c 1");
        // Names that are alike but for one letter, the first or the eighth.
        CHECK.good(BEGUN + ";boy abcdefgh sly early 1;boy bbcdefgh sly early 1;boy abcdefgi sly early 1;boy a sly early 1;"
            + "boy aa sly early 1;officer hgfedcba every 1;watch bbcdefgh hgfedcba east speed 1");
        GlassWatch x = Check.loaded(BEGUN + ";boy abcdefgh sly early 1;boy bbcdefgh sly early 2;boy abcdefgi sly early 3;"
            + "boy bcdefgh sly early 4;officer f every 9;watch abcdefgi f east speed 1;watch bbcdefgh f east speed 1;"
            + "watch bcdefgh f east speed 1;watch abcdefgh f east speed 1");
        int[] boys = {2, 1, 3, 0};
        for (int k = 0; k < 4; k++) CHECK.due("watch(" + k + ", 0)", x.watch(k, 0), boys[k]);
    }

    private static void toldAgain() {
        CHECK.sentence(4, "a NAME told again; at it");
        CHECK.fault(3, CREW + ";boy ^b sly early 1");
        CHECK.fault(3, CREW + ";boy ^f sly early 1");
        CHECK.fault(3, CREW + ";officer ^f every 1");
        CHECK.fault(3, CREW + ";officer ^b every 1");
        CHECK.fault(3, CREW + ";officer ^b every 99");
        CHECK.sentence(4, "a noon, a found one after so many watches told already; at that WHOLE");
        CHECK.fault(3, TWELVE + ";noon at 1;noon at 12;noon at 3;noon at ^12");
        CHECK.fault(3, TWELVE + ";noon at 1;noon at ^01");
        CHECK.fault(3, TWELVE + ";found 0 at 1 1;found ^0 at 2 2");
        CHECK.fault(3, TWELVE + ";found 12 at 1 1;found 0 at 1 1;found ^012 at 999");
        CHECK.good(TWELVE + ";noon at 3;found 3 at 3 3;found 1 at 3 3");
        // Told already counts ahead of what is late: that is a fault of the end.
        CHECK.fault(3, READY + ";noon at 12;noon at ^12");
        CHECK.fault(3, READY + ";found 12 at 0 0;found ^12");
        CHECK.sentence(4, "a SQUARE that is a shoal already; at its second WHOLE");
        CHECK.fault(3, READY + ";shoal 0 0;shoal 199 199;shoal 0 ^0");
        CHECK.fault(3, READY + ";shoal 0 0;shoal 199 199;shoal 199 ^199");
        CHECK.fault(3, READY + ";shoal 1 2;shoal 001 ^02");
        CHECK.good(READY + ";shoal 1 2;shoal 2 1;shoal 12 1;shoal 1 12;shoal 1 1;shoal 2 2");
        CHECK.sentence(4, "a BOY unsure already; at it");
        CHECK.fault(3, READY + ";boy c sly early 1;unsure b 1;unsure c 1;unsure ^b 2");
        CHECK.fault(3, READY + ";unsure b 1;unsure ^b 99");
        CHECK.sentence(4, "a second voyage: at that WORD");
        CHECK.fault(3, BEGUN + ";^" + BEGUN);
        CHECK.fault(3, READY + " ;  ^voyage");
        CHECK.fault(3, READY + ";^voyage 1");
    }

    private static void ends() {
        CHECK.sentence(4, "LACKS: any LINE ahead of the voyage; at its WORD");
        for (String word : BEGINNINGS) {
            if (word.equals("voyage")) continue;
            CHECK.fault(6, "^" + word);
            CHECK.fault(6, "   ^" + word + " $");
            CHECK.fault(6, "^" + word + ";" + READY);
        }
        CHECK.fault(6, "^boy b sly early 1;" + BEGUN);
        CHECK.sentence(4, "LACKS: at the end: no watch");
        CHECK.fault(6, BEGUN + "^");
        CHECK.fault(6, BEGUN + "   ^");
        CHECK.fault(6, CREW + ";shoal 1 1;unsure b 1^");
        CHECK.sentence(4, "LATE: at the end: a noon, a found one after more watches than there are");
        CHECK.good(READY + ";noon at 1;found 1 at 0 0;found 0 at 0 0");
        CHECK.fault(7, READY + ";noon at 2^");
        CHECK.fault(7, READY + ";noon at 12;noon at 1;shoal 1 1^");
        CHECK.fault(7, READY + ";found 2 at 0 0^");
        CHECK.fault(7, READY + ";found 12 at 0 0;found 1 at 0 0  ^");
        CHECK.fault(7, TWELVE.substring(0, TWELVE.lastIndexOf(';')) + ";noon at 12^");
        CHECK.good(CREW + ";noon at 2;found 2 at 0 0;watch b f east speed 1;watch b f east speed 1");
        CHECK.good(TWELVE + ";noon at 12;found 12 at 0 0");
        CHECK.sentence(4, "the end: its place");
        for (int blanks = 0; blanks < 4; blanks++) {
            CHECK.fault(1, " ".repeat(blanks) + "^");
            CHECK.fault(1, READY + ";noon at" + " ".repeat(blanks) + "^");
            CHECK.fault(6, BEGUN + " ".repeat(blanks) + "^");
            CHECK.fault(7, READY + ";noon at 2" + " ".repeat(blanks) + "^");
        }
    }

    private static void faultsThatMeet() {
        CHECK.sentence(4, "FAULTS, the first that is met from the left");
        CHECK.fault(7, READY + ";noon at 2^");
        CHECK.fault(6, "^boy b sly early 99");
        CHECK.fault(5, TWELVE + ";^watch $");
        CHECK.fault(4, READY + ";boy c sly early ^21;$");
        CHECK.fault(3, READY + ";boy ^b shy");
        CHECK.fault(2, READY + ";watch ^x y up");
        CHECK.fault(2, READY + ";watch ^x $");
        CHECK.fault(4, "voyage from ^200 $");
        CHECK.fault(1, "voyage ^200");
        CHECK.fault(4, READY + ";shoal ^200 200");
        CHECK.fault(4, READY + ";found ^13 at 200 200");
        CHECK.fault(4, READY + ";noon at 2;boy c sly early ^21");
        CHECK.sentence(4, "of one place the least number");
        CHECK.fault(1, "^");
        CHECK.fault(1, BEGUN + ";^");
        CHECK.fault(1, BEGUN + ";noon at 2;^");
        CHECK.fault(1, READY + ";noon at 2;^");
        CHECK.fault(1, BEGUN + ";noon^");
        CHECK.fault(6, BEGUN + ";noon at 2^");
        CHECK.fault(6, BEGUN + ";found 1 at 0 0;noon at 1^");
    }

    public static void main(String[] args) {
        blanks();
        everyByte();
        words();
        wholes();
        lines();
        boundsOfWholes();
        rooms();
        names();
        toldAgain();
        ends();
        faultsThatMeet();
        CHECK.end();
    }
}
