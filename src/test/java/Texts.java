/** The voyages that several tests tell. */
final class Texts {
    private Texts() { }

    /** Stolen: 60, 40, 0, 80. */
    static final String FOUR = "voyage from 10 20 clouds 50 idle 50;boy ned sly early 10;boy tom bold early 5;"
        + "boy ian honest early 9;officer lee every 4;officer ray every 9;watch ned lee north speed 5;"
        + "watch tom ray east speed 4;watch ian lee south speed 2;watch ned ray west speed 1;noon at 2;noon at 4;"
        + "shoal 10 31;shoal 19 31;unsure ned 2;found 1 at 10 29";

    /** Honest, looked at always, out to the west below 0. */
    static final String WEST = "voyage from 0 0 clouds 0 idle 0;boy b honest early 20;officer f every 1;"
        + "watch b f west speed 9";

    /** Twelve watches of one bold boy, 160 each, with the most of everything. */
    static final String FULL = "voyage from 199 199 clouds 100 idle 100;boy a bold early 20;boy b sly early 20;"
        + "boy c honest early 20;boy d bold early 1;boy e sly early 0;officer f every 9;officer g every 1;"
        + "officer h every 3;officer i every 8;"
        + "watch a f north speed 9;".repeat(12)
        + "noon at 1;noon at 12;noon at 6;noon at 3;"
        + "shoal 0 0;shoal 0 1;shoal 1 0;shoal 1 1;shoal 2 0;shoal 2 1;"
        + "unsure a 0;unsure b 1;unsure c 2;unsure d 3;"
        + "found 0 at 199 199;found 12 at 0 0;found 1 at 199 199";

    /** One boy, one officer, one watch to the north, and what stands behind it. */
    static String one(String kind, int early, int every, int speed, String more) {
        return "voyage from 5 5 clouds 50 idle 50;boy b " + kind + " early " + early + ";officer f every " + every
            + ";watch b f north speed " + speed + more;
    }
}
