/** Promises 18 to 27 but 26: wardens, quiet, guards, news, tidings, wells, shops, counted, bestNews. */
public final class SetsTest {
    public static void main(String[] args) {
        noTown();
        oneHouse();
        wrongInputs();
        lane();
        star();
        fullTowns();
        firstSets();
        spreading();
        Check.finish("SetsTest");
    }

    private static void noTown() {
        OneWayTown x = new OneWayTown();
        Check.due("wardens(0)", x.wardens(0), 0);
        Check.due("wardens(999)", x.wardens(999), 0);
        Check.due("quiet", x.quiet(), 0);
        Check.due("guards", x.guards(), 0);
        Check.due("news", x.news(0), -1);
        Check.due("tidings", x.tidings(0), -1);
        Check.due("bestNews", x.bestNews(), -1);
        for (int k = 0; k <= 5; k++) {
            Check.due("wells", x.wells(k), -1);
            Check.due("shops", x.shops(k), -1);
        }
        int[] counts = {1, 1, 0, 1};
        for (int what = 0; what < 4; what++) {
            Check.due("counted(" + what + ")", x.counted(what), counts[what]);
        }
    }

    private static void oneHouse() {
        OneWayTown x = Check.told("house a people 0;");
        Check.due("wardens(0)", x.wardens(0), 1);
        Check.due("wardens(999)", x.wardens(999), 1);
        Check.due("quiet of no people: the first set has the house", x.quiet(), 1);
        Check.due("guards of no street", x.guards(), 0);
        Check.due("news", x.news(0), 0);
        Check.due("tidings", x.tidings(0), 0);
        Check.due("bestNews", x.bestNews(), 0);
        for (int k = 1; k <= 4; k++) {
            Check.due("wells", x.wells(k), 0);
            Check.lying("wells", x, 0);
            Check.due("shops", x.shops(k), 0);
            Check.lying("shops", x, 0);
        }
        int[] counts = {2, 2, 1, 1};
        for (int what = 0; what < 4; what++) {
            Check.due("counted(" + what + ")", x.counted(what), counts[what]);
        }
    }

    private static void wrongInputs() {
        OneWayTown x = Check.told("house a;house b at a street 1;");
        int[] bad = {-1, 1000, Integer.MIN_VALUE, Integer.MAX_VALUE};
        for (int d : bad) {
            Check.due("wardens(" + d + ")", x.wardens(d), -1);
            Check.due("news(" + d + ")", x.news(d), -1);
            Check.due("tidings(" + d + ")", x.tidings(d), -1);
            Check.due("counted(" + d + ")", x.counted(d), -1);
            x.way(0, 1);
            Check.due("wells(" + d + ")", x.wells(d), -1);
            Check.lying("wells(" + d + ")", x);
            x.way(0, 1);
            Check.due("shops(" + d + ")", x.shops(d), -1);
            Check.lying("shops(" + d + ")", x);
        }
        Check.due("news(2)", x.news(2), -1);
        Check.due("tidings(2)", x.tidings(2), -1);
        Check.due("counted(4)", x.counted(4), -1);
        Check.due("wells(0)", x.wells(0), -1);
        Check.due("wells(5)", x.wells(5), -1);
        Check.due("shops(0)", x.shops(0), -1);
        Check.due("shops(5)", x.shops(5), -1);
    }

    /** Six houses in a row, streets 1, 2, 3, 4, 5, people 1, 2, 3, 4, 5, 6. */
    private static void lane() {
        OneWayTown x = Check.told("house a people 1;house b at a street 1 people 2;house c at b street 2 people 3;"
                + "house d at c street 3 people 4;house e at d street 4 people 5;house f at e street 5 people 6;");
        Check.due("wardens(0)", x.wardens(0), 0b111111);
        Check.due("wardens(1)", x.wardens(1), 0b111101);
        Check.due("wardens(3)", x.wardens(3), 0b110100);
        Check.due("wardens(5)", x.wardens(5), 0b010001);
        Check.due("wardens(6)", x.wardens(6), 0b010001);
        Check.due("wardens(9)", x.wardens(9), 0b001000);
        Check.due("wardens(999)", x.wardens(999), 0b000001);
        Check.due("quiet", x.quiet(), 0b101010);
        Check.due("guards", x.guards(), 0b010101);
        Check.due("wells(1)", x.wells(1), 9);
        Check.lying("wells(1)", x, 3);
        Check.due("wells(2)", x.wells(2), 5);
        Check.lying("wells(2)", x, 0, 4);
        Check.due("shops(1)", x.shops(1), 95);
        Check.lying("shops(1)", x, 4);
        Check.due("shops(4)", x.shops(4), 7);
        Check.lying("shops(4)", x, 1, 3, 4, 5);
        Check.due("counted(0)", x.counted(0), 21);
        Check.due("counted(1)", x.counted(1), 21);
        Check.due("counted(2)", x.counted(2), 21);
        Check.due("counted(3)", x.counted(3), 13);
        Check.due("news(0)", x.news(0), 5);
        Check.due("news(2)", x.news(2), 3);
        Check.due("news(3)", x.news(3), 3);
        Check.due("bestNews", x.bestNews(), 2);
        Check.due("tidings(0)", x.tidings(0), 15);
        Check.due("tidings(3)", x.tidings(3), 9);
    }

    private static void star() {
        StringBuilder text = new StringBuilder("house a people 50;");
        for (char name = 'b'; name <= 'n'; name++) {
            text.append("house ").append(name).append(" at a street 9 people 4;");
        }
        OneWayTown x = Check.told(text.toString());
        Check.due("wardens(8)", x.wardens(8), 0x3fff);
        Check.due("wardens(9)", x.wardens(9), 1);
        Check.due("wardens(18)", x.wardens(18), 1);
        Check.due("quiet", x.quiet(), 0x3ffe);
        Check.due("guards", x.guards(), 1);
        Check.due("counted(0)", x.counted(0), 8193);
        Check.due("counted(1)", x.counted(1), 8193);
        Check.due("counted(2)", x.counted(2), 8205);
        Check.due("counted(3)", x.counted(3), 14);
        Check.due("news(0)", x.news(0), 13);
        Check.due("news(1)", x.news(1), 13);
        Check.due("bestNews", x.bestNews(), 0);
        Check.due("tidings(0)", x.tidings(0), 21);
        Check.due("tidings(1)", x.tidings(1), 29);
        Check.due("shops(1)", x.shops(1), 468);
        Check.due("shops(4)", x.shops(4), 360);
        Check.lying("shops(4)", x, 0, 1, 2, 3);
        x.live(0, 51);
        Check.due("quiet by fewer people", x.quiet(), 0x3ffe);
        x.live(0, 52);
        Check.due("quiet of like ones: the first", x.quiet(), 1);
        x.live(0, 53);
        Check.due("quiet by one house", x.quiet(), 1);
    }

    private static void fullTowns() {
        // A lane of fourteen.
        OneWayTown x = new OneWayTown();
        x.grown(14, 0xcba987654321L);
        Check.due("counted(0)", x.counted(0), 987);
        Check.due("counted(2)", x.counted(2), 105);
        Check.due("counted(3)", x.counted(3), 610);
        Check.due("wardens(1) are five", Integer.bitCount(x.wardens(1)), 5);
        Check.due("guards are seven", Integer.bitCount(x.guards()), 7);
        Check.due("quiet are seven", Integer.bitCount(x.quiet()), 7);
        Check.due("quiet, the first set", x.quiet(), 0x1555);
        Check.due("bestNews", x.bestNews(), 6);
    }

    private static void firstSets() {
        // Of two the first: the set that has house 0.
        OneWayTown x = Check.told("house a people 5;house b at a street 1 people 5;");
        Check.due("wardens(1)", x.wardens(1), 1);
        Check.due("quiet", x.quiet(), 1);
        Check.due("guards", x.guards(), 1);
        Check.due("shops(1)", x.shops(1), 5);
        Check.lying("shops(1)", x, 0);
        // Houses of no people belong to the first set wherever they may.
        x = Check.told("house a people 0;house b at a street 1 people 0;house c at b street 1 people 0;");
        Check.due("quiet of no people", x.quiet(), 0b101);
        Check.due("shops(2) of no people", x.shops(2), 0);
        Check.lying("shops(2) of no people", x, 0, 1);
        Check.due("shops(3)", x.shops(3), 0);
        Check.lying("shops(3)", x, 0, 1, 2);
        Check.due("shops(4): all, if there are fewer", x.shops(4), 0);
        Check.lying("shops(4)", x, 0, 1, 2);
        // {0, 2} is ahead of {0, 3} and {1, 2}.
        x = Check.told("house a;house b at a street 1;house c at b street 1;house d at c street 1;");
        Check.due("wardens(1) of a lane of four", x.wardens(1), 0b0101);
        Check.due("guards of a lane of four", x.guards(), 0b0101);
        Check.due("quiet of a lane of four", x.quiet(), 0b0101);
    }

    private static void spreading() {
        // One that needs longest is told first.
        OneWayTown x = Check.told("house a;house b at a street 1;house c at a street 10;house d at c street 1;"
                + "house e at d street 1;");
        Check.due("news(0)", x.news(0), 3);
        Check.due("tidings(0)", x.tidings(0), 12);
        Check.due("news(2)", x.news(2), 3);
        Check.due("bestNews", x.bestNews(), 0);
        Check.due("tidings(1)", x.tidings(1), 13);
        Check.due("tidings(4)", x.tidings(4), 13);
    }
}
