/** Promises 40 to 42: boys among each other, their rests. */
public final class AmongTest {
    private static final Check CHECK = new Check();
    private static final int[] WRONG = {-1, 10, Integer.MIN_VALUE, Integer.MAX_VALUE};

    public static void main(String[] args) {
        GlassWatch x = Check.loaded(Texts.WEST);
        GlassWatch none = new GlassWatch();
        for (int port = 0; port <= 9; port++) {
            CHECK.promise(40);
            CHECK.due("both, the one", x.steals(port, true, true, false), 3 - port);
            CHECK.due("both, the other one", x.steals(port, true, true, true), 3 - port);
            CHECK.due("the one alone, he", x.steals(port, true, false, false), 2);
            CHECK.due("the one alone, the other one", x.steals(port, true, false, true), -1);
            CHECK.due("the other one alone, the one", x.steals(port, false, true, false), -1);
            CHECK.due("the other one alone, he", x.steals(port, false, true, true), 2);
            CHECK.due("neither, the one", x.steals(port, false, false, false), 1);
            CHECK.due("neither, the other one", x.steals(port, false, false, true), 1);
            CHECK.due("trouble()", x.trouble(), 0);
            CHECK.promise(41);
            CHECK.due("rests(" + port + ")", x.rests(port), port < 4 ? 1 : port == 4 ? 3 : 2);
            CHECK.promise(42);
            CHECK.due("rest(" + port + ")", x.rest(port), port < 4 ? 11 : 1);
        }
        for (int port : WRONG) {
            CHECK.promise(40);
            CHECK.refused("steals(" + port + ")", x, x.steals(port, true, true, true), -100, 2);
            CHECK.promise(41);
            CHECK.refused("rests(" + port + ")", x, x.rests(port), -1, 2);
            CHECK.promise(42);
            CHECK.refused("rest(" + port + ")", x, x.rest(port), -1, 2);
        }
        CHECK.promise(40);
        CHECK.refused("steals of no voyage", none, none.steals(-1, true, true, true), -100, 1);
        CHECK.promise(41);
        none.undo();
        CHECK.refused("rests of no voyage", none, none.rests(-1), -1, 1);
        CHECK.promise(42);
        none.undo();
        CHECK.refused("rest of no voyage", none, none.rest(-1), -1, 1);
        CHECK.end();
    }
}
