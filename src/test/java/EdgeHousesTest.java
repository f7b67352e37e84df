/** The boundary cases of houses and ways: part 2 of the terms, promises 6 to 11, 26, 35 and 36. */
public final class EdgeHousesTest {
    public static void main(String[] args) {
        theWay();
        farOff();
        twoFarthest();
        middles();
        postman();
        houseAnswers();
        houseRefused();
        wayRefused();
        wayLies();
        farRefused();
        farthestAnswers();
        farthestRefused();
        middleAnswers();
        middleRefused();
        postAnswers();
        postRefused();
        quartersCount();
        quartersRefused();
        quartersLie();
        joinedAnswers();
        joinedRefused();
        liesAnswers();
        liesRefused();
        Check.finish("EdgeHousesTest");
    }

    private static OneWayTown longest() {
        return Check.told(Edge.lane(14, 99, 99));
    }

    /** As many houses as told, in a row. */
    private static OneWayTown row(int houses) {
        return Check.told(Edge.lane(houses, 2, 3));
    }

    private static void theWay() {
        Check.says("Terms 2", "The WAY of two HOUSES goes by streets, no HOUSE twice; it is as long as these together.");
        Check.due("of one house with itself", Check.told("house a;").way(0, 0), 0);
        OneWayTown x = longest();
        Check.due("of the last with itself", x.way(13, 13), 0);
        Check.lying("of the last with itself", x, 13);
        Check.due("the longest there is", x.way(0, 13), 1287);
        Check.lying("the longest there is", x, Edge.upTo(14));
        Check.due("the other way round", x.way(13, 0), 1287);
        Check.lying("the other way round", x, 13, 12, 11, 10, 9, 8, 7, 6, 5, 4, 3, 2, 1, 0);
        Check.due("one street", x.way(6, 7), 99);
        Check.lying("one street", x, 6, 7);
        x = Check.told(Edge.star(14, 99, 1));
        Check.due("over the middle", x.way(13, 1), 198);
        Check.lying("over the middle", x, 13, 0, 1);
        x = Check.told("house a;house b at a street 1;");
        Check.due("of two", x.way(1, 0), 1);
        Check.lying("of two", x, 1, 0);
    }

    private static void farOff() {
        Check.says("Terms 2", "FAR of a HOUSE: the longest WAY from it.");
        Check.due("alone", Check.told("house a;").far(0), 0);
        OneWayTown x = Check.told("house a;house b at a street 99;");
        Check.due("of two", x.far(0), 99);
        Check.due("of two", x.far(1), 99);
        x = longest();
        for (int house = 0; house < 14; house++) {
            Check.due("far(" + house + ")", x.far(house), 99 * Math.max(house, 13 - house));
        }
        // To a house that hangs there, and to one the other way.
        x = Check.told("house a;house b at a street 5;house c at b street 2;");
        Check.due("back", x.far(1), 5);
        Check.due("on", x.far(0), 7);
    }

    private static void twoFarthest() {
        Check.says("Terms 2", "The two FARTHEST: of the longest WAY, of like ones the first two "
                + "(the first less than the second; the first counts most).");
        OneWayTown x = Check.told("house a;house b at a street 7;");
        farthest("of two", x, 0, 1, 7);
        farthest("at the ends", longest(), 0, 13, 1287);
        farthest("of many like ones", Check.told(Edge.star(14, 4, 1)), 1, 2, 8);
        // 0 - 3 and 1 - 2 are like: the first counts most.
        x = Check.told("house a;house b at a street 1;house c at b street 1;");
        farthest("a lane of three", x, 0, 2, 2);
        // The greater number nearer to house 0: the first is less all the same.
        x = Check.told("house m;house z at m street 9;house y at m street 8;house x at m street 9;");
        farthest("1 and 3", x, 1, 3, 18);
        // From house 0 two like ones: the less.
        x = Check.told("house a;house b at a street 1;house c at b street 3;house d at b street 3;house e at b street 3;");
        farthest("2 and 3", x, 2, 3, 6);
        x = Check.told("house a;house b at a street 3;house c at b street 3;house d at b street 3;house e at b street 3;");
        farthest("0 and 2", x, 0, 2, 6);
    }

    private static void farthest(String when, OneWayTown x, int first, int second, int length) {
        Check.due(when + ": farthest(0)", x.farthest(0), first);
        Check.due(when + ": farthest(1)", x.farthest(1), second);
        Check.due(when + ": farthest(2)", x.farthest(2), length);
    }

    private static void middles() {
        Check.says("Terms 2", "MIDDLES: 0 the HOUSE of the least FAR; 1 that from which WAYS, each times the people at its end, "
                + "are least together; 2 that without which the greatest QUARTER (what hangs together then, by people) "
                + "is least (0 if it is alone); of like ones the first.");
        middle("alone", Check.told("house a people 99;"), 0, 0, 0);
        middle("alone without people", Check.told("house a people 0;"), 0, 0, 0);
        middle("of two like ones the first", Check.told("house a;house b at a street 9;"), 0, 0, 0);
        middle("of two by people", Check.told("house a;house b at a street 9 people 2;"), 0, 1, 1);
        middle("no people anywhere", Check.told(Edge.lane(14, 99, 0)), 6, 0, 0);
        middle("a full lane", longest(), 6, 6, 6);
        middle("all people in the last", Check.told(Edge.lane(13, 1, 0) + "house n at m street 99 people 99;"), 12, 13, 13);
        // Without house 2 no people are left, so that the greatest quarter has none.
        middle("all in one", Check.told("house a people 0;house b at a street 3 people 0;house c at b street 3 people 5;"), 1, 2, 2);
        // The sums of like ones: a lane of four with people 1, 0, 0, 1.
        middle("like sums", Check.told("house a;house b at a street 5 people 0;house c at b street 5 people 0;house d at c street 5;"),
                1, 0, 0);
        middle("one quarter alone", Check.told("house a people 5;house b at a street 1 people 5;"), 0, 0, 0);
    }

    private static void middle(String when, OneWayTown x, int zero, int one, int two) {
        Check.due(when + ": middle(0)", x.middle(0), zero);
        Check.due(when + ": middle(1)", x.middle(1), one);
        Check.due(when + ": middle(2)", x.middle(2), two);
    }

    private static void postman() {
        Check.says("Terms 2", "POST: the shortest walk from a HOUSE by all streets, home again, or not.");
        OneWayTown x = Check.told("house a;");
        Check.due("no streets, home", x.post(0, true), 0);
        Check.due("no streets", x.post(0, false), 0);
        x = Check.told("house a;house b at a street 99;");
        Check.due("one street, home", x.post(1, true), 198);
        Check.due("one street", x.post(1, false), 99);
        x = longest();
        Check.due("the longest, home", x.post(6, true), 2574);
        Check.due("from an end", x.post(13, false), 1287);
        Check.due("from the middle", x.post(6, false), 2574 - 693);
        x = Check.told(Edge.star(14, 99, 1));
        Check.due("a star, home", x.post(0, true), 2574);
        Check.due("a star", x.post(0, false), 2475);
        Check.due("a star from an end", x.post(5, false), 2376);
    }

    private static void houseAnswers() {
        Check.says("Promise 6", "Of a HOUSE what 0: that which it hangs at (NONE of HOUSE 0), 1: how long its street is "
                + "(0 of HOUSE 0), 2: people, 3: how many streets it has");
        int[][] one = {{-1, 0, 7, 0}};
        houses(Check.told("house a people 7;"), one);
        int[][] two = {{-1, 0, 0, 1}, {0, 99, 99, 1}};
        houses(Check.told("house a people 0;house b at a street 99 people 99;"), two);
        int[][] full = new int[14][];
        full[0] = new int[] {-1, 0, 5, 13};
        for (int house = 1; house < 14; house++) {
            full[house] = new int[] {0, 1, 5, 1};
        }
        houses(Check.told(Edge.star(14, 1, 5)), full);
        // Moved to a house of a greater number; house 0 keeps NONE.
        OneWayTown x = Check.told("house a;house b at a street 4;house c at a street 6;");
        x.move(1, 2);
        int[][] moved = {{-1, 0, 1, 1}, {2, 4, 1, 1}, {0, 6, 1, 2}};
        houses(x, moved);
    }

    private static void houses(OneWayTown x, int[][] want) {
        for (int house = 0; house < want.length; house++) {
            for (int what = 0; what < 4; what++) {
                Check.due("house(" + house + ", " + what + ")", x.house(house, what), want[house][what]);
            }
        }
    }

    private static void houseRefused() {
        Check.says("Promise 6", "-2 if there is none such, or for another what.");
        int[] sizes = {0, 1, 2, 14};
        for (int size : sizes) {
            OneWayTown x = row(size);
            for (int house : Edge.outside(0, size - 1)) {
                for (int what = 0; what < 4; what++) {
                    Check.due("house(" + house + ", " + what + ") of " + size, x.house(house, what), -2);
                }
            }
            for (int what : Edge.outside(0, 3)) {
                Check.due("house(0, " + what + ") of " + size, x.house(0, what), -2);
                Check.due("house(13, " + what + ") of " + size, x.house(13, what), -2);
            }
        }
        // Houses that were there and are not any more.
        OneWayTown x = row(2);
        x.grow(0, 1, 1);
        x.undo();
        Check.due("a house that is undone", x.house(2, 2), -2);
        x.town();
        Check.due("a house of the town ahead", x.house(0, 2), -2);
    }

    private static void wayRefused() {
        Check.says("Promise 7", "How long the WAY of two HOUSES is; NONE if one can't be.");
        int[] sizes = {0, 1, 2, 14};
        for (int size : sizes) {
            OneWayTown x = row(size);
            for (int house : Edge.outside(0, size - 1)) {
                Check.due("way(" + house + ", 0) of " + size, x.way(house, 0), -1);
                Check.due("way(0, " + house + ") of " + size, x.way(0, house), -1);
                Check.due("way(" + house + ", " + house + ") of " + size, x.way(house, house), -1);
            }
            for (int house = 0; house < size; house++) {
                Check.due("way(0, " + house + ") of " + size, x.way(0, house), 2 * house);
            }
        }
    }

    private static void wayLies() {
        Check.says("Promise 7", "HOUSES on it lie there then, from the first on (behind NONE: nothing).");
        OneWayTown x = row(14);
        x.way(13, 0);
        Check.due("fourteen lie there", x.about(9), 14);
        Check.due("the first", x.lies(0), 13);
        Check.due("the last", x.lies(13), 0);
        for (int house : Edge.outside(0, 13)) {
            x.way(3, 4);
            Check.lying("two houses", x, 3, 4);
            x.way(house, 4);
            Check.due("nothing behind way(" + house + ", 4)", x.about(9), 0);
            Check.due("not even the first", x.lies(0), -1);
            x.way(3, 4);
            x.way(4, house);
            Check.due("nothing behind way(4, " + house + ")", x.about(9), 0);
        }
        x = new OneWayTown();
        x.way(0, 0);
        Check.lying("nothing without houses", x);
        x = Check.told("house a;");
        x.way(0, 0);
        Check.lying("one house with itself", x, 0);
    }

    private static void farRefused() {
        Check.says("Promise 8", "FAR; NONE if there is none such.");
        int[] sizes = {0, 1, 2, 14};
        for (int size : sizes) {
            OneWayTown x = row(size);
            for (int house : Edge.outside(0, size - 1)) {
                Check.due("far(" + house + ") of " + size, x.far(house), -1);
            }
            for (int house = 0; house < size; house++) {
                Check.due("far(" + house + ") of " + size, x.far(house), 2 * Math.max(house, size - 1 - house));
            }
        }
    }

    private static void farthestAnswers() {
        Check.says("Promise 9", "The two FARTHEST what 0: the first, 1: the second, 2: how long");
        farthest("two houses", row(2), 0, 1, 2);
        farthest("fourteen houses", row(14), 0, 13, 26);
    }

    private static void farthestRefused() {
        Check.says("Promise 9", "NONE with less than two HOUSES, or for another what.");
        for (int what = 0; what < 3; what++) {
            Check.due("of none", new OneWayTown().farthest(what), -1);
            Check.due("of one", row(1).farthest(what), -1);
        }
        for (int what : Edge.outside(0, 2)) {
            Check.due("farthest(" + what + ") of none", new OneWayTown().farthest(what), -1);
            Check.due("farthest(" + what + ") of one", row(1).farthest(what), -1);
            Check.due("farthest(" + what + ") of two", row(2).farthest(what), -1);
            Check.due("farthest(" + what + ") of fourteen", row(14).farthest(what), -1);
        }
        OneWayTown x = row(1);
        x.grow(0, 8, 1);
        farthest("of one that grew", x, 0, 1, 8);
        x.undo();
        Check.due("undone", x.farthest(2), -1);
    }

    private static void middleAnswers() {
        Check.says("Promise 10", "MIDDLE of a sort (0 .. 2)");
        middle("one house", row(1), 0, 0, 0);
        middle("three houses", row(3), 1, 1, 1);
    }

    private static void middleRefused() {
        Check.says("Promise 10", "NONE without HOUSES, or for another sort.");
        for (int sort = 0; sort < 3; sort++) {
            Check.due("middle(" + sort + ") of none", new OneWayTown().middle(sort), -1);
        }
        for (int sort : Edge.outside(0, 2)) {
            Check.due("middle(" + sort + ") of none", new OneWayTown().middle(sort), -1);
            Check.due("middle(" + sort + ") of one", row(1).middle(sort), -1);
            Check.due("middle(" + sort + ") of fourteen", row(14).middle(sort), -1);
        }
    }

    private static void postAnswers() {
        Check.says("Promise 11", "POST: how long");
        Check.due("home", row(14).post(0, true), 52);
        Check.due("not home", row(14).post(0, false), 26);
    }

    private static void postRefused() {
        Check.says("Promise 11", "NONE if there is none such.");
        int[] sizes = {0, 1, 2, 14};
        for (int size : sizes) {
            OneWayTown x = row(size);
            for (int house : Edge.outside(0, size - 1)) {
                Check.due("post(" + house + ", true) of " + size, x.post(house, true), -1);
                Check.due("post(" + house + ", false) of " + size, x.post(house, false), -1);
            }
            for (int house = 0; house < size; house++) {
                Check.due("post(" + house + ", true) of " + size, x.post(house, true), 4 * (size - 1));
            }
        }
    }

    private static void quartersCount() {
        Check.says("Promise 26", "QUARTERS without a HOUSE: how many");
        Check.due("alone", row(1).quarters(0), 0);
        Check.due("of two", row(2).quarters(1), 1);
        Check.due("an end of fourteen", row(14).quarters(13), 1);
        Check.due("the middle of fourteen", row(14).quarters(7), 2);
        Check.due("thirteen at once", Check.told(Edge.star(14, 1, 1)).quarters(0), 13);
    }

    private static void quartersRefused() {
        Check.says("Promise 26", "NONE if there is none such.");
        int[] sizes = {0, 1, 2, 14};
        for (int size : sizes) {
            OneWayTown x = row(size);
            for (int house : Edge.outside(0, size - 1)) {
                Check.due("quarters(" + house + ") of " + size, x.quarters(house), -1);
            }
        }
    }

    private static void quartersLie() {
        Check.says("Promise 26", "Their people lie there then, by the neighbours' numbers (behind NONE: nothing).");
        OneWayTown x = Check.told(Edge.star(14, 1, 99));
        x.quarters(0);
        Check.lying("thirteen of 99", x, 99, 99, 99, 99, 99, 99, 99, 99, 99, 99, 99, 99, 99);
        x.quarters(13);
        Check.lying("all others", x, 1287);
        for (int house : Edge.outside(0, 13)) {
            x.quarters(0);
            Check.due("thirteen lie there", x.about(9), 13);
            x.quarters(house);
            Check.lying("nothing behind quarters(" + house + ")", x);
        }
        x = Check.told("house a people 0;");
        x.way(0, 0);
        x.quarters(0);
        Check.lying("nothing beside one alone", x);
        x = new OneWayTown();
        x.quarters(0);
        Check.lying("nothing without houses", x);
        // Quarters of no people lie there too.
        x = Check.told(Edge.lane(3, 1, 0));
        x.quarters(1);
        Check.lying("no people", x, 0, 0);
        // A house that hangs at one of a greater number: that neighbour is behind the others.
        x = Check.told("house a people 1;house b at a street 1 people 2;house c at a street 1 people 4;"
                + "house d at a street 1 people 8;house e at b street 1 people 16;");
        x.move(1, 3);
        x.quarters(1);
        Check.lying("by the neighbours' numbers", x, 13, 16);
        x.quarters(3);
        Check.lying("by the neighbours' numbers", x, 5, 18);
        x.move(2, 1);
        x.quarters(1);
        Check.lying("the one that it hangs at in between", x, 4, 9, 16);
    }

    private static void joinedAnswers() {
        Check.says("Promise 35", "JOINED of a HOUSE's street what 0: the longest WAY then, 1: the HOUSE of the part cut off, "
                + "2: the other one");
        joined("two houses", Check.told("house a;house b at a street 99;"), 1, 99, 1, 0);
        // A full lane cut at house 7: both middles joined, 3 and 1 and 3 streets.
        joined("a full lane", Check.told(Edge.lane(14, 99, 1)), 7, 99 * 7, 10, 3);
        joined("its last house", Check.told(Edge.lane(14, 99, 1)), 13, 99 * 12, 13, 1);
        joined("its first street", Check.told(Edge.lane(14, 99, 1)), 1, 99 * 12, 2, 0);
        joined("a star stays", Check.told(Edge.star(14, 5, 1)), 13, 10, 13, 0);
        OneWayTown x = Check.told(Edge.lane(14, 99, 1));
        x.joined(7, 0);
        Check.due("nothing is joined in earnest", x.house(7, 0), 6);
        Check.due("no act", x.about(4), 0);
    }

    private static void joined(String when, OneWayTown x, int house, int longest, int inner, int outer) {
        Check.due(when + ": joined(" + house + ", 0)", x.joined(house, 0), longest);
        Check.due(when + ": joined(" + house + ", 1)", x.joined(house, 1), inner);
        Check.due(when + ": joined(" + house + ", 2)", x.joined(house, 2), outer);
    }

    private static void joinedRefused() {
        Check.says("Promise 35", "NONE if one can't be (HOUSE 0, too).");
        int[] sizes = {0, 1, 2, 14};
        for (int size : sizes) {
            OneWayTown x = row(size);
            for (int house : Edge.outside(1, size - 1)) {
                for (int what = 0; what < 3; what++) {
                    Check.due("joined(" + house + ", " + what + ") of " + size, x.joined(house, what), -1);
                }
            }
            for (int what : Edge.outside(0, 2)) {
                Check.due("joined(1, " + what + ") of " + size, x.joined(1, what), -1);
                Check.due("joined(0, " + what + ") of " + size, x.joined(0, what), -1);
                Check.due("joined(13, " + what + ") of " + size, x.joined(13, what), -1);
            }
        }
    }

    private static void liesAnswers() {
        Check.says("Promise 36", "The i-th number of what lies there");
        OneWayTown x = row(14);
        x.way(13, 0);
        for (int i = 0; i < 14; i++) {
            Check.due("lies(" + i + ")", x.lies(i), 13 - i);
        }
        Check.due("asked again", x.lies(0), 13);
        // What lies there is that of the latest call that lays something, till town().
        x.quarters(1);
        Check.lying("quarters", x, 3, 36);
        x.marks();
        Check.due("marks", x.about(9), 12);
        x.wells(1);
        Check.lying("wells", x, 6);
        x.shops(2);
        Check.due("shops", x.about(9), 2);
        x.grow(0, 1, 1);
        x.live(0, 5);
        x.undo();
        x.redo();
        x.far(0);
        x.image(0);
        x.back(0);
        Check.due("other calls leave it", x.about(9), 2);
    }

    private static void liesRefused() {
        Check.says("Promise 36", "NONE if there is none such.");
        OneWayTown none = new OneWayTown();
        OneWayTown one = row(14);
        one.way(5, 5);
        OneWayTown all = row(14);
        all.way(0, 13);
        for (int i : Edge.outside(0, 0)) {
            Check.due("lies(" + i + ") of none", none.lies(i), -1);
            Check.due("lies(" + i + ") of one", one.lies(i), -1);
        }
        Check.due("lies(0) of none", none.lies(0), -1);
        for (int i : Edge.outside(0, 13)) {
            Check.due("lies(" + i + ") of fourteen", all.lies(i), -1);
        }
        // Fewer than before: those behind are gone.
        all.way(3, 5);
        Check.due("the last of three", all.lies(2), 5);
        Check.due("the fourth of three", all.lies(3), -1);
        Check.due("the fourteenth of three", all.lies(13), -1);
    }
}
