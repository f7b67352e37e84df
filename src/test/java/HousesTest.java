/** Promises 6 to 11, 26, 35 and 36: houses, ways, middles, post, quarters, joined, lies. */
public final class HousesTest {
    public static void main(String[] args) {
        noTown();
        oneHouse();
        aTown();
        firstOfLikeOnes();
        whatLies();
        longTown();
        joining();
        Check.finish("HousesTest");
    }

    private static void noTown() {
        OneWayTown x = new OneWayTown();
        for (int what = -1; what <= 4; what++) {
            Check.due("no town: house", x.house(0, what), -2);
            Check.due("no town: farthest", x.farthest(what), -1);
            Check.due("no town: middle", x.middle(what), -1);
            Check.due("no town: joined", x.joined(0, what), -1);
        }
        Check.due("no town: way", x.way(0, 0), -1);
        Check.due("no town: far", x.far(0), -1);
        Check.due("no town: post", x.post(0, true), -1);
        Check.due("no town: post", x.post(0, false), -1);
        Check.due("no town: quarters", x.quarters(0), -1);
    }

    private static void oneHouse() {
        OneWayTown x = Check.told("house a people 7;");
        Check.due("house(0, 0)", x.house(0, 0), -1);
        Check.due("house(0, 1)", x.house(0, 1), 0);
        Check.due("house(0, 2)", x.house(0, 2), 7);
        Check.due("house(0, 3)", x.house(0, 3), 0);
        Check.due("way(0, 0)", x.way(0, 0), 0);
        Check.lying("way(0, 0)", x, 0);
        Check.due("far(0)", x.far(0), 0);
        for (int what = 0; what < 3; what++) {
            Check.due("farthest of one", x.farthest(what), -1);
            Check.due("middle of one", x.middle(what), 0);
        }
        Check.due("post(0, true)", x.post(0, true), 0);
        Check.due("post(0, false)", x.post(0, false), 0);
        Check.due("quarters(0)", x.quarters(0), 0);
        Check.lying("quarters(0)", x);
        Check.due("joined(0, 0)", x.joined(0, 0), -1);
        Check.due("joined(1, 0)", x.joined(1, 0), -1);
    }

    /** Houses a to f: b, c at a; d, e at c; f at e. */
    private static OneWayTown six() {
        return Check.told("house a people 2;house b at a street 10 people 3;house c at a street 4;"
                + "house d at c street 20 people 50;house e at c street 5 people 0;house f at e street 6 people 9;");
    }

    private static void aTown() {
        OneWayTown x = six();
        int[][] houses = {{-1, 0, 2, 2}, {0, 10, 3, 1}, {0, 4, 1, 3}, {2, 20, 50, 1}, {2, 5, 0, 2}, {4, 6, 9, 1}};
        for (int house = 0; house < 6; house++) {
            for (int what = 0; what < 4; what++) {
                Check.due("house(" + house + ", " + what + ")", x.house(house, what), houses[house][what]);
            }
            Check.due("house, what 4", x.house(house, 4), -2);
            Check.due("house, what -1", x.house(house, -1), -2);
        }
        Check.due("house(-1, 0)", x.house(-1, 0), -2);
        Check.due("house(6, 0)", x.house(6, 0), -2);
        Check.due("way(1, 5)", x.way(1, 5), 25);
        Check.lying("way(1, 5)", x, 1, 0, 2, 4, 5);
        Check.due("way(5, 1)", x.way(5, 1), 25);
        Check.lying("way(5, 1)", x, 5, 4, 2, 0, 1);
        Check.due("way(3, 5)", x.way(3, 5), 31);
        Check.lying("way(3, 5)", x, 3, 2, 4, 5);
        Check.due("far(0)", x.far(0), 24);
        Check.due("far(3)", x.far(3), 34);
        Check.due("far(-1)", x.far(-1), -1);
        Check.due("far(6)", x.far(6), -1);
        Check.due("farthest(0)", x.farthest(0), 1);
        Check.due("farthest(1)", x.farthest(1), 3);
        Check.due("farthest(2)", x.farthest(2), 34);
        Check.due("farthest(3)", x.farthest(3), -1);
        Check.due("farthest(-1)", x.farthest(-1), -1);
        Check.due("middle(0)", x.middle(0), 2);
        Check.due("middle(1)", x.middle(1), 3);
        Check.due("middle(2)", x.middle(2), 3);
        Check.due("middle(3)", x.middle(3), -1);
        Check.due("middle(-1)", x.middle(-1), -1);
        Check.due("post(0, true)", x.post(0, true), 90);
        Check.due("post(0, false)", x.post(0, false), 66);
        Check.due("post(3, false)", x.post(3, false), 56);
        Check.due("post(6, true)", x.post(6, true), -1);
        Check.due("post(-1, false)", x.post(-1, false), -1);
        Check.due("quarters(2)", x.quarters(2), 3);
        Check.lying("quarters(2)", x, 5, 50, 9);
        Check.due("quarters(0)", x.quarters(0), 2);
        Check.lying("quarters(0)", x, 3, 60);
        Check.due("quarters(3)", x.quarters(3), 1);
        Check.lying("quarters(3)", x, 15);
    }

    private static void firstOfLikeOnes() {
        OneWayTown x = Check.told("house a people 0;house b at a street 3 people 0;house c at a street 3 people 0;"
                + "house d at a street 3 people 0;");
        Check.due("first farthest", x.farthest(0), 1);
        Check.due("second farthest", x.farthest(1), 2);
        Check.due("how long", x.farthest(2), 6);
        Check.due("middle(1) without people", x.middle(1), 0);
        Check.due("middle(2) without people", x.middle(2), 0);
        x = Check.told("house a;house b at a street 3;");
        for (int sort = 0; sort < 3; sort++) {
            Check.due("first of two", x.middle(sort), 0);
        }
        // The first counts most: of 0 - 3, 1 - 2 and their like the pair with house 0.
        x = Check.told("house a;house b at a street 1;house c at b street 1;house d at c street 1;"
                + "house e at b street 2;");
        Check.due("farthest(0)", x.farthest(0), 3);
        Check.due("farthest(1)", x.farthest(1), 4);
        x = Check.told("house a;house b at a street 1;house c at b street 2;house d at b street 2;house e at a street 1;");
        Check.due("farthest(0)", x.farthest(0), 2);
        Check.due("farthest(1)", x.farthest(1), 3);
    }

    private static void whatLies() {
        OneWayTown x = six();
        Check.lying("nothing at first", x);
        int[][] bad = {{-1, 0}, {0, -1}, {6, 0}, {0, 6}, {Integer.MAX_VALUE, 0}, {0, Integer.MIN_VALUE}};
        for (int[] pair : bad) {
            x.way(0, 5);
            Check.due("way that can't be", x.way(pair[0], pair[1]), -1);
            Check.lying("way that can't be", x);
        }
        x.way(0, 5);
        Check.due("quarters(6)", x.quarters(6), -1);
        Check.lying("quarters(6)", x);
        x.way(0, 5);
        Check.due("quarters(-1)", x.quarters(-1), -1);
        Check.lying("quarters(-1)", x);
        x.way(0, 5);
        Check.due("lies(-1)", x.lies(-1), -1);
        Check.due("lies(4)", x.lies(4), -1);
        Check.due("lies(max)", x.lies(Integer.MAX_VALUE), -1);
        // Other calls leave it as it is.
        x.far(0);
        x.grow(0, 1, 1);
        x.undo();
        x.redo();
        x.middle(2);
        x.carts(0);
        x.image(0);
        x.back(0);
        x.wardens(3);
        x.joined(3, 0);
        Check.lying("way(0, 5)", x, 0, 2, 4, 5);
    }

    private static void longTown() {
        StringBuilder text = new StringBuilder("house a people 99;");
        for (char name = 'b'; name <= 'n'; name++) {
            text.append("house ").append(name).append(" at ").append((char) (name - 1)).append(" street 99 people 99;");
        }
        OneWayTown x = Check.told(text.toString());
        Check.due("way from end to end", x.way(13, 0), 1287);
        Check.lying("way from end to end", x, 13, 12, 11, 10, 9, 8, 7, 6, 5, 4, 3, 2, 1, 0);
        Check.due("middle(0)", x.middle(0), 6);
        Check.due("middle(1)", x.middle(1), 6);
        Check.due("middle(2)", x.middle(2), 6);
        Check.due("post(0, true)", x.post(0, true), 2574);
        Check.due("post(0, false)", x.post(0, false), 1287);
        Check.due("farthest(1)", x.farthest(1), 13);
        Check.due("wells(1)", x.wells(1), 693);
        Check.lying("wells(1)", x, 6);
    }

    private static void joining() {
        OneWayTown x = six();
        Check.due("joined(0, 0)", x.joined(0, 0), -1);
        Check.due("joined(6, 0)", x.joined(6, 0), -1);
        Check.due("joined(-1, 0)", x.joined(-1, 0), -1);
        Check.due("joined(1, 3)", x.joined(1, 3), -1);
        Check.due("joined(1, -1)", x.joined(1, -1), -1);
        // House c with d, e, f: far within 31 from d, 20 from c; the rest has 10 from either.
        Check.due("joined(2, 0)", x.joined(2, 0), 34);
        Check.due("joined(2, 1)", x.joined(2, 1), 2);
        Check.due("joined(2, 2)", x.joined(2, 2), 0);
        // House b best joins c, and the town stays as it is.
        Check.due("joined(1, 0)", x.joined(1, 0), 31);
        Check.due("joined(1, 1)", x.joined(1, 1), 1);
        Check.due("joined(1, 2)", x.joined(1, 2), 2);
        Check.due("nothing is moved", x.house(1, 0), 0);
        Check.due("no act", x.about(4), 0);
        x = Check.told("house a;house b at a street 9;");
        Check.due("joined of two", x.joined(1, 0), 9);
        Check.due("joined of two", x.joined(1, 1), 1);
        Check.due("joined of two", x.joined(1, 2), 0);
    }
}
