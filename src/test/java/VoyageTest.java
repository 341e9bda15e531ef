/** Promises 1 to 5: a new object, the tape, reading a voyage, faults and their places. */
public final class VoyageTest {
    private static final Check CHECK = new Check();
    private static final String BEGUN = "voyage from 0 0 clouds 0 idle 0;";
    private static final String READY = BEGUN + "boy b sly early 1;officer f every 1;watch b f east speed 1";

    private static void aNewObject() {
        CHECK.promise(1);
        GlassWatch x = new GlassWatch();
        for (int what = 0; what <= 11; what++) CHECK.due("size(" + what + ")", x.size(what), 0);
        CHECK.due("trouble()", x.trouble(), 0);
        CHECK.due("fault()", x.fault(), 0);
        CHECK.due("where()", x.where(), -1);
        CHECK.refused("strikes()", x, x.strikes(), -1, 1);
        CHECK.due("NONE", GlassWatch.NONE, -1);
    }

    private static void feeding() {
        CHECK.promise(2);
        GlassWatch x = new GlassWatch();
        CHECK.refused("undo()", x, x.undo() ? 1 : 0, 0, 6);
        for (int i = 1; i <= 45; i++) CHECK.due("feed " + i, x.feed(0, 0, 0, 0, 0), 20 * i);
        CHECK.due("feed 46", x.feed(0, 0, 0, 0, 0), -1);
        CHECK.due("size(11)", x.size(11), 900);
        CHECK.due("trouble() stays by feed", x.trouble(), 6);
        CHECK.refused("voyage(901)", x, x.voyage(901), -1, 2);
        // The highest byte comes first: "voya" is 0x766f7961.
        GlassWatch y = new GlassWatch();
        y.feed(0x766f7961, 0x67652020, 0x66726f6d, 0x20313220, 0x33342020);
        CHECK.refused("voyage(18)", y, y.voyage(18), -1, 4);
        CHECK.due("where()", y.where(), 18);
        // A byte above 127 is one place of no token; the numbers come in their order.
        y.feed(0x766f7961, 0x6765ff20, 0, 0, 0);
        y.voyage(8);
        CHECK.due("where() of 255", y.where(), 6);
        // The tape may be full of a voyage.
        GlassWatch z = new GlassWatch();
        Check.feed(z, READY + " ".repeat(900 - READY.length()));
        CHECK.due("voyage(900)", z.voyage(900), 1);
    }

    private static void reading() {
        CHECK.promise(3);
        GlassWatch x = Check.loaded(Texts.FOUR);
        CHECK.due("trouble()", x.trouble(), 0);
        x.attend(0);
        x.image();
        CHECK.due("feed", Check.feed(x, READY), 100);
        CHECK.refused("voyage(-1)", x, x.voyage(-1), -1, 2);
        CHECK.refused("voyage(101)", x, x.voyage(101), -1, 2);
        CHECK.due("the tape stays", x.size(11), 100);
        CHECK.refused("voyage(10)", x, x.voyage(10), -1, 4);
        CHECK.due("the tape is empty", x.size(11), 0);
        CHECK.due("the voyage stays", x.size(4), 4);
        CHECK.due("its attended watch stays", x.watch(0, 4), 1);
        CHECK.due("its acts stay", x.size(9), 1);
        CHECK.due("its images stay", x.size(10), 1);
        Check.feed(x, READY + ";noon at 1");
        CHECK.due("voyage of the first bytes", x.voyage(READY.length()), 1);
        CHECK.due("the tape is empty", x.size(11), 0);
        CHECK.due("no noon", x.size(5), 0);
        CHECK.due("nobody attends", x.watch(0, 4), 0);
        CHECK.due("nothing to undo", x.size(9), 0);
        CHECK.due("no images", x.size(10), 0);
        CHECK.due("back(0)", x.back(0), false);
        Check.feed(x, READY + "0;boy c sly early 1");
        CHECK.due("voyage of a token's first byte", x.voyage(READY.length()), 1);
        CHECK.due("its speed", x.watch(0, 3), 1);
        CHECK.due("voyage of all that there can be", Check.load(x, Texts.FULL.replace("  ", " ")), 12);
        CHECK.refused("voyage(0)", x, x.voyage(0), -1, 4);
        CHECK.due("fault() of nothing", x.fault(), 1);
        CHECK.due("where() of nothing", x.where(), 0);
    }

    private static void faultsStay() {
        CHECK.promise(4);
        GlassWatch x = new GlassWatch();
        Check.load(x, "voyage from 0 0 clouds 0 idle 0");
        CHECK.due("fault()", x.fault(), 6);
        x.voyage(5);
        CHECK.due("fault() behind a refusal by 2", x.fault(), 6);
        CHECK.promise(5);
        CHECK.due("where() behind a refusal by 2", x.where(), -1);
        Check.load(x, "voyage from 0 0 clouds 0 idle 0");
        x.fault();
        x.size(0);
        x.trouble();
        x.feed(0, 0, 0, 0, 0);
        CHECK.due("where() stays by calls that aren't refused", x.where(), 31);
        x.strikes();
        CHECK.due("where() behind another refusal", x.where(), -1);
        CHECK.promise(4);
        CHECK.due("fault() stays", x.fault(), 6);
        x.voyage(0);
        Check.load(x, READY);
        CHECK.due("fault() of none", x.fault(), 0);
        CHECK.promise(5);
        CHECK.due("where() of none", x.where(), -1);
    }

    private static void fault(int number, String marked) {
        CHECK.promise(4);
        CHECK.fault(number, marked);
    }

    private static void good(String text) {
        CHECK.promise(3);
        CHECK.good(text);
    }

    private static void forms() {
        fault(1, "^");
        fault(1, "   ^");
        fault(1, "^;");
        fault(1, "^12");
        fault(1, "^sail");
        fault(1, "^Voyage");
        fault(1, "^voyagevoy");
        fault(1, "voyage ^0");
        fault(1, "voyage^");
        fault(1, "voyage  ^");
        fault(1, "voyage from 1^");
        fault(1, "voyage from ^1000");
        fault(1, "voyage from 1 2 ^cloud 3");
        fault(1, "voyage from 1 2 clouds 3 idle ^-1");
        fault(1, "voyage from 1 2 clouds 3 idle 4 ^5");
        fault(1, "voyage from 1 2 clouds 3 idle 4 ^boy");
        fault(1, BEGUN + "^");
        fault(1, BEGUN + "^;");
        fault(1, READY + "; ^");
        fault(1, BEGUN + "boy ^noon");
        fault(1, BEGUN + "boy ^7");
        fault(1, BEGUN + "boy ^abcdefghi sly early 1");
        fault(1, BEGUN + "boy b ^shy");
        fault(1, BEGUN + "boy b sly ^every 1");
        fault(1, BEGUN + "officer ^boy");
        fault(1, BEGUN + "officer f ^early");
        fault(1, BEGUN + "boy b sly early 1;watch ^officer");
        fault(1, READY + ";watch b f ^up");
        fault(1, READY + ";watch b f east ^1");
        fault(1, READY + ";noon ^1");
        fault(1, READY + ";shoal 1^");
        fault(1, READY + ";unsure ^voyage");
        fault(1, READY + ";unsure b^");
        fault(1, READY + ";found 1 ^1");
        fault(1, READY + ";found 1 at 1 ^at");
        fault(1, READY + "^.");
        fault(1, READY + "^\u00e9");
        fault(1, READY + "^\n");
    }

    private static void names() {
        fault(2, BEGUN + "watch ^b");
        fault(2, BEGUN + "boy b sly early 1;watch b ^f");
        fault(2, READY + ";watch ^f");
        fault(2, READY + ";watch b ^b");
        fault(2, READY + ";unsure ^f");
        fault(2, READY + ";unsure ^c 21");
        fault(3, READY + ";boy ^f");
        fault(3, READY + ";boy ^b");
        fault(3, READY + ";officer ^b");
        fault(3, READY + ";officer ^f");
        fault(3, READY + ";noon at 1;noon at ^1");
        fault(3, READY + ";found 1 at 1 1;found ^1");
        fault(3, READY + ";shoal 1 2;shoal 1 ^2");
        fault(3, READY + ";unsure b 1;unsure ^b");
        fault(3, BEGUN + "^voyage");
        fault(3, READY + ";^voyage from");
        good(READY + ";shoal 1 2;shoal 2 1;shoal 1 1;noon at 1;found 1 at 1 1;found 0 at 1 1");
        good(READY.replace("b ", "az ").replace("f ", "za "));
        good(READY + ";boy early sly early 1;boy abcdefgh bold early 0;watch abcdefgh f west speed 0");
    }

    private static void bounds() {
        fault(4, "voyage from ^200");
        fault(4, "voyage from 199 ^200");
        fault(4, "voyage from 0 0 clouds ^101");
        fault(4, "voyage from 0 0 clouds 100 idle ^101");
        fault(4, BEGUN + "boy b sly early ^21");
        fault(4, BEGUN + "officer f every ^0");
        fault(4, BEGUN + "officer f every ^10");
        fault(4, READY + ";watch b f east speed ^10");
        fault(4, READY + ";noon at ^0");
        fault(4, READY + ";noon at ^13");
        fault(4, READY + ";shoal ^200");
        fault(4, READY + ";shoal 199 ^200");
        fault(4, READY + ";unsure b ^21");
        fault(4, READY + ";found ^13");
        fault(4, READY + ";found 1 at ^200");
        fault(4, READY + ";found 1 at 199 ^200");
        good("voyage from199 199clouds 100 idle 100 ;boy b bold early 20;officer f every9;  watch b f east speed 009;"
            + "noon at 01;shoal 199 199;unsure b 20;found 0 at 199 199  ");
    }

    private static void rooms() {
        String boys = ";boy c sly early 1;boy d sly early 1;boy e sly early 1;boy g sly early 1";
        String officers = ";officer h every 1;officer i every 1;officer j every 1";
        String watches = ";watch b f east speed 1".repeat(11);
        String noons = ";noon at 1;noon at 2;noon at 3;noon at 4";
        String shoals = ";shoal 1 1;shoal 1 2;shoal 1 3;shoal 1 4;shoal 1 5;shoal 1 6";
        String unsure = ";unsure b 1;unsure c 1;unsure d 1;unsure e 1";
        String found = ";found 0 at 1 1;found 1 at 1 1;found 2 at 1 1";
        String all = READY + boys + officers + watches + noons + shoals + unsure + found;
        good(all);
        fault(5, READY + boys + ";^boy");
        fault(5, READY + officers + ";^officer");
        fault(5, READY + watches + ";^watch");
        fault(5, READY + noons + ";^noon");
        fault(5, READY + shoals + ";^shoal");
        fault(5, READY + boys + unsure + ";^unsure g 1");
        fault(5, READY + found + "; ^found 1 at");
        fault(3, READY + boys + ";^voyage");
    }

    private static void ends() {
        fault(6, "^boy b");
        fault(6, " ^found");
        fault(6, "^watch b f;voyage");
        fault(6, "voyage from 0 0 clouds 0 idle 0^");
        fault(6, "voyage from 0 0 clouds 0 idle 0  ^");
        fault(6, BEGUN + "noon at 1^");
        fault(7, READY + ";noon at 2^");
        fault(7, READY + ";found 2 at 0 0 ^");
        fault(1, READY + ";noon at 2;^");
        good(BEGUN + "noon at 1;found 1 at 0 0;shoal 0 0;boy b sly early 1;officer f every 1;watch b f east speed 1");
    }

    public static void main(String[] args) {
        aNewObject();
        feeding();
        reading();
        faultsStay();
        forms();
        names();
        bounds();
        rooms();
        ends();
        CHECK.end();
    }
}
