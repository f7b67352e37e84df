/** The boundary cases of sets and news: part 3 of the terms, promises 18 to 25 and 27. */
public final class EdgeSetsTest {
    public static void main(String[] args) {
        wardensWithin();
        quietHouses();
        guardedStreets();
        theFirstSet();
        newsSpreads();
        bestOfLikeOnes();
        tidingsSpread();
        wellsAtMost();
        shopsJust();
        setsCounted();
        wardensAnswer();
        quietAnswers();
        guardsAnswer();
        newsAnswers();
        tidingsAnswer();
        wellsAnswer();
        wellsLie();
        shopsAnswer();
        shopsLie();
        countedAnswers();
        countedRefused();
        bestNewsAnswers();
        Check.finish("EdgeSetsTest");
    }

    private static final int[] SIZES = {0, 1, 2, 14};

    private static OneWayTown lane(int houses, int street, int people) {
        return Check.told(Edge.lane(houses, street, people));
    }

    private static OneWayTown star(int houses, int street, int people) {
        return Check.told(Edge.star(houses, street, people));
    }

    private static int all(int houses) {
        return (1 << houses) - 1;
    }

    private static void wardensWithin() {
        Check.says("Terms 3", "WARDENS within d: the fewest HOUSES so that each HOUSE has one not farther than d (0 .. 999).");
        for (int size : SIZES) {
            Check.due("wardens(0) of " + size, lane(size, 1, 1).wardens(0), all(size));
        }
        OneWayTown x = lane(2, 7, 1);
        Check.due("one too near", x.wardens(6), 3);
        Check.due("just so far", x.wardens(7), 1);
        Check.due("farther", x.wardens(999), 1);
        // A full lane of 1,287: from house 3 it is 990 to the last, from house 2 it is 1,089.
        x = lane(14, 99, 1);
        Check.due("wardens(999) of the longest", x.wardens(999), 1 << 3);
        Check.due("wardens(990)", x.wardens(990), 1 << 3);
        Check.due("wardens(989)", x.wardens(989), 1 << 4);
        Check.due("wardens(693)", x.wardens(693), 1 << 6);
        Check.due("wardens(692)", Integer.bitCount(x.wardens(692)), 2);
        Check.due("wardens(98)", x.wardens(98), all(14));
        Check.due("wardens(99)", Integer.bitCount(x.wardens(99)), 5);
        x = star(14, 99, 1);
        Check.due("a star, 98", x.wardens(98), all(14));
        Check.due("a star, 99", x.wardens(99), 1);
        Check.due("a star, 198", x.wardens(198), 1);
    }

    private static void quietHouses() {
        Check.says("Terms 3", "QUIET: HOUSES of which no two have a street between them, with the most people together.");
        Check.due("no houses", new OneWayTown().quiet(), 0);
        Check.due("one", lane(1, 1, 5).quiet(), 1);
        Check.due("one without people", lane(1, 1, 0).quiet(), 1);
        OneWayTown x = Check.told("house a people 98;house b at a street 1 people 99;");
        Check.due("of two the one with more", x.quiet(), 2);
        x.live(0, 99);
        Check.due("of two like ones the first", x.quiet(), 1);
        Check.due("a full lane", lane(14, 99, 99).quiet(), 0b01010101010101);
        Check.due("a full star", star(14, 99, 99).quiet(), all(14) - 1);
        x = star(14, 1, 7);
        x.live(0, 90);
        Check.due("thirteen sevens are 91", x.quiet(), all(14) - 1);
        x.live(0, 91);
        Check.due("as many: the first", x.quiet(), 1);
        x.live(0, 92);
        Check.due("one has more", x.quiet(), 1);
    }

    private static void guardedStreets() {
        Check.says("Terms 3", "GUARDS: the fewest HOUSES so that each street has one at an end.");
        Check.due("no houses", new OneWayTown().guards(), 0);
        Check.due("no streets", lane(1, 1, 1).guards(), 0);
        Check.due("one street", lane(2, 99, 0).guards(), 1);
        Check.due("a full lane", lane(14, 1, 1).guards(), 0b01010101010101);
        Check.due("thirteen in a row", lane(13, 1, 1).guards(), 0b0101010101010);
        Check.due("a full star", star(14, 1, 1).guards(), 1);
        Check.due("people are of no matter", Check.told("house a people 0;house b at a street 1 people 99;").guards(), 1);
    }

    private static void theFirstSet() {
        Check.says("Terms 3", "Of like ones the first set: that which has the first HOUSE by which they differ.");
        // 0 1 2 3 in a row: {0, 2} and {0, 3}, {1, 2}, {1, 3} have two each.
        OneWayTown x = lane(4, 1, 1);
        Check.due("wardens(1)", x.wardens(1), 0b0101);
        Check.due("guards", x.guards(), 0b0101);
        Check.due("quiet", x.quiet(), 0b0101);
        Check.due("wardens(2)", x.wardens(2), 0b0010);
        Check.due("wardens(3)", x.wardens(3), 0b0001);
        // No people: the first house counts, then the next that may.
        x = lane(14, 1, 0);
        Check.due("quiet of no people", x.quiet(), 0b01010101010101);
        x = star(14, 1, 0);
        Check.due("quiet of no people in a star: that with house 0", x.quiet(), 1);
        // Two pairs: {0, 3} is ahead of {1, 2} though its number is greater.
        x = Check.told("house a people 5;house b at a street 1 people 5;house c at a street 1 people 0;house d at b street 1 people 5;");
        Check.due("quiet {0, 3}, not {1, 2}", x.quiet(), 0b1001);
    }

    private static void newsSpreads() {
        Check.says("Terms 3", "NEWS from a HOUSE: in each HOUR everyone who knows may tell one neighbour "
                + "(streets' lengths don't matter): the fewest HOURS in which all know");
        Check.due("one alone", lane(1, 1, 1).news(0), 0);
        Check.due("two", lane(2, 99, 0).news(0), 1);
        Check.due("two, from the other", lane(2, 99, 0).news(1), 1);
        OneWayTown x = lane(14, 99, 1);
        for (int house = 0; house < 14; house++) {
            Check.due("lane from " + house, x.news(house), Math.max(house, 13 - house));
        }
        x = star(14, 99, 1);
        Check.due("a star from its middle", x.news(0), 13);
        Check.due("a star from an end", x.news(13), 13);
        // In a town with two like sides one of them waits.
        Check.due("three from the middle", lane(3, 1, 1).news(1), 2);
        Check.due("five from the middle", lane(5, 1, 1).news(2), 3);
        // The last of four neighbours needs longest: it is told first, the others behind it.
        x = Check.told("house m;house a at m street 1;house b at m street 1;house c at m street 1;house d at m street 1;"
                + "house e at d street 1;");
        Check.due("2, then 1, 1, 1", x.news(0), 4);
    }

    private static void bestOfLikeOnes() {
        Check.says("Terms 3", "BEST: from the HOUSE for which these are fewest, of like ones the first.");
        Check.due("alone", lane(1, 1, 1).bestNews(), 0);
        Check.due("two like ones", lane(2, 1, 1).bestNews(), 0);
        Check.due("three: 2 hours from each", lane(3, 1, 1).bestNews(), 0);
        Check.due("fourteen in a row", lane(14, 1, 1).bestNews(), 6);
        Check.due("a star of fourteen", star(14, 1, 1).bestNews(), 0);
        OneWayTown x = Check.told("house a;house b at a street 1;house c at b street 1;house d at c street 1;house e at a street 1;");
        Check.due("the middle of five in a row is house 1", x.house(1, 3), 2);
        Check.due("3 hours from 0, 1 and 2", x.news(0) * 100 + x.news(1) * 10 + x.news(2), 333);
        Check.due("the first", x.bestNews(), 0);
        // By streets' lengths it would be house 3.
        x = Check.told("house a;house b at a street 1;house c at b street 1;house d at c street 99;house e at d street 1;");
        Check.due("lengths don't matter", x.bestNews(), 1);
    }

    private static void tidingsSpread() {
        Check.says("Terms 3", "TIDINGS from a HOUSE: likewise, but to tell takes as long as the street, "
                + "and one may begin to tell each HOUR one neighbour: the fewest HOURS in which all know.");
        Check.due("one alone", lane(1, 1, 1).tidings(0), 0);
        Check.due("two", lane(2, 99, 1).tidings(1), 99);
        OneWayTown x = lane(14, 99, 1);
        Check.due("the longest from an end", x.tidings(0), 1287);
        Check.due("the longest from the middle", x.tidings(6), 693);
        Check.due("two like sides: one waits", lane(13, 99, 1).tidings(6), 595);
        x = star(14, 99, 1);
        Check.due("a star from its middle", x.tidings(0), 12 + 99);
        Check.due("a star from an end", x.tidings(1), 99 + 11 + 99);
        x = star(14, 1, 1);
        Check.due("streets of 1: as news", x.tidings(0), 13);
        // It is told on while others are told, and who needs longest is told first.
        x = Check.told("house a;house b at a street 1;house c at a street 3;house d at a street 2;");
        Check.due("3, then 2, then 1", x.tidings(0), 3);
        x = Check.told("house m;house a at m street 3;house b at m street 3;house c at m street 3;house d at m street 4;");
        Check.due("4, then 3, 3, 3", x.tidings(0), 6);
    }

    private static void wellsAtMost() {
        Check.says("Terms 3", "WELLS, k (1 .. 4) at most: the least d within which each HOUSE has one "
                + "(by WARDENS within d, no more than k).");
        OneWayTown x = lane(14, 99, 1);
        int[] reach = {693, 297, 198, 198};
        for (int k = 1; k <= 4; k++) {
            Check.due("wells(" + k + ")", x.wells(k), reach[k - 1]);
        }
        Check.lying("three are enough within 198", x, 1, 6, 11);
        for (int k = 1; k <= 4; k++) {
            Check.due("wells(" + k + ") of one", lane(1, 1, 1).wells(k), 0);
            Check.due("wells(" + k + ") of two", lane(2, 99, 1).wells(k), k == 1 ? 99 : 0);
            Check.due("wells(" + k + ") of four", lane(4, 5, 1).wells(k), k == 1 ? 10 : k < 4 ? 5 : 0);
            Check.due("wells(" + k + ") of a star", star(14, 99, 1).wells(k), 99);
        }
    }

    private static void shopsJust() {
        Check.says("Terms 3", "SHOPS, k (1 .. 4): HOUSES, just k (all, if there are fewer), for which WAYS from each HOUSE "
                + "to the nearest one, each times its people, are least together; of like ones the first set (as for WARDENS).");
        for (int k = 1; k <= 4; k++) {
            for (int size = 1; size <= 5; size++) {
                OneWayTown x = lane(size, 9, 0);
                Check.due("no people: shops(" + k + ") of " + size, x.shops(k), 0);
                Check.lying("the first ones, just " + k + " or all of " + size, x, Edge.upTo(Math.min(k, size)));
            }
        }
        OneWayTown x = lane(14, 99, 99);
        Check.due("the greatest sum of the longest", x.shops(1), 49 * 99 * 99);
        Check.lying("its shop", x, 6);
        x = star(14, 99, 99);
        Check.due("a star", x.shops(1), 13 * 99 * 99);
        Check.due("a star of four shops", x.shops(4), 10 * 99 * 99);
        Check.lying("the first four", x, 0, 1, 2, 3);
        // All people in the last house: a shop there, the others as the first set has them.
        x = Check.told(Edge.lane(13, 9, 0) + "house n at m street 9 people 99;");
        Check.due("one shop", x.shops(1), 0);
        Check.lying("one shop", x, 13);
        Check.due("four shops", x.shops(4), 0);
        Check.lying("four shops", x, 0, 1, 2, 13);
    }

    private static void setsCounted() {
        Check.says("Terms 3", "COUNTED: sets of HOUSES of which no two have a street between them (0), that have one at an end "
                + "of each street (1), that are not empty and hang together (2); sets of streets of which no two are at one HOUSE (3).");
        counted("no houses", new OneWayTown(), 1, 1, 0, 1);
        counted("one", lane(1, 1, 1), 2, 2, 1, 1);
        counted("two", lane(2, 1, 1), 3, 3, 3, 2);
        counted("three", lane(3, 1, 1), 5, 5, 6, 3);
        counted("a full lane", lane(14, 1, 1), 987, 987, 105, 610);
        counted("a full star", star(14, 1, 1), 8193, 8193, 8205, 14);
    }

    private static void counted(String when, OneWayTown x, int... want) {
        for (int what = 0; what < 4; what++) {
            Check.due(when + ": counted(" + what + ")", x.counted(what), want[what]);
        }
    }

    private static void wardensAnswer() {
        Check.says("Promise 18", "WARDENS within d, as bits; NONE if one can't be.");
        for (int size : SIZES) {
            OneWayTown x = lane(size, 1, 1);
            for (int d : Edge.outside(0, 999)) {
                Check.due("wardens(" + d + ") of " + size, x.wardens(d), -1);
            }
            Check.due("wardens(999) of " + size, x.wardens(999), size == 0 ? 0 : 1);
            Check.due("wardens(0) of " + size, x.wardens(0), all(size));
            Check.due("wardens(998) of " + size, x.wardens(998), size == 0 ? 0 : 1);
        }
        OneWayTown x = lane(14, 1, 1);
        x.way(3, 5);
        x.wardens(3);
        Check.lying("nothing is laid there", x, 3, 4, 5);
    }

    private static void quietAnswers() {
        Check.says("Promise 19", "QUIET HOUSES, as bits.");
        Check.due("none", new OneWayTown().quiet(), 0);
        Check.due("bit 13 alone", Check.told(Edge.star(13, 1, 0) + "house n at a street 1 people 1;").quiet(), all(14) - 1);
        Check.due("bit 0", lane(1, 1, 1).quiet(), 1);
    }

    private static void guardsAnswer() {
        Check.says("Promise 20", "GUARDS, as bits.");
        Check.due("none", new OneWayTown().guards(), 0);
        OneWayTown x = new OneWayTown();
        x.grown(14, 0xddddddddddddL);
        Check.due("bit 13 alone", x.guards(), 1 << 13);
        Check.due("bit 0", lane(2, 1, 1).guards(), 1);
    }

    private static void newsAnswers() {
        Check.says("Promise 21", "NEWS from a HOUSE: how many HOURS; NONE if there is none such.");
        for (int size : SIZES) {
            OneWayTown x = lane(size, 5, 1);
            for (int house : Edge.outside(0, size - 1)) {
                Check.due("news(" + house + ") of " + size, x.news(house), -1);
            }
        }
        Check.due("none, not -1", lane(1, 5, 1).news(0), 0);
        Check.due("the most", lane(14, 5, 1).news(13), 13);
    }

    private static void tidingsAnswer() {
        Check.says("Promise 22", "TIDINGS; NONE if there is none such.");
        for (int size : SIZES) {
            OneWayTown x = lane(size, 5, 1);
            for (int house : Edge.outside(0, size - 1)) {
                Check.due("tidings(" + house + ") of " + size, x.tidings(house), -1);
            }
        }
        Check.due("none, not -1", lane(1, 5, 1).tidings(0), 0);
        Check.due("the most", lane(14, 99, 1).tidings(13), 1287);
    }

    private static void wellsAnswer() {
        Check.says("Promise 23", "WELLS: d; NONE if one can't be, or without HOUSES.");
        for (int size : SIZES) {
            OneWayTown x = lane(size, 5, 1);
            for (int k : Edge.outside(1, 4)) {
                Check.due("wells(" + k + ") of " + size, x.wells(k), -1);
            }
        }
        for (int k = 1; k <= 4; k++) {
            Check.due("wells(" + k + ") without houses", new OneWayTown().wells(k), -1);
            Check.due("wells(" + k + ") without houses", Check.told("draw 5;").wells(k), -1);
        }
        Check.due("0 is no NONE", lane(4, 99, 1).wells(4), 0);
        Check.due("the greatest", lane(14, 99, 1).wells(1), 693);
    }

    private static void wellsLie() {
        Check.says("Promise 23", "Those WARDENS lie there then, upward (behind NONE: nothing).");
        OneWayTown x = lane(14, 99, 1);
        x.wells(4);
        Check.lying("upward", x, 1, 6, 11);
        for (int k : Edge.outside(1, 4)) {
            x.wells(4);
            Check.due("three lie there", x.about(9), 3);
            x.wells(k);
            Check.lying("nothing behind wells(" + k + ")", x);
        }
        x = lane(4, 99, 1);
        x.wells(4);
        Check.lying("all four", x, 0, 1, 2, 3);
        x = lane(2, 99, 1);
        x.wells(4);
        Check.lying("all two", x, 0, 1);
        x = new OneWayTown();
        x.grown(2, 0);
        x.way(0, 1);
        x.undo();
        Check.due("two lie there without houses", x.about(9), 2);
        Check.due("wells without houses", x.wells(1), -1);
        Check.lying("nothing then", x);
    }

    private static void shopsAnswer() {
        Check.says("Promise 24", "SHOPS: the sum; NONE likewise.");
        for (int size : SIZES) {
            OneWayTown x = lane(size, 5, 1);
            for (int k : Edge.outside(1, 4)) {
                Check.due("shops(" + k + ") of " + size, x.shops(k), -1);
            }
        }
        for (int k = 1; k <= 4; k++) {
            Check.due("shops(" + k + ") without houses", new OneWayTown().shops(k), -1);
            Check.due("shops(" + k + ") without houses", Check.told("draw 5;").shops(k), -1);
            Check.due("0 is no NONE", lane(k, 99, 99).shops(k), 0);
        }
    }

    private static void shopsLie() {
        Check.says("Promise 24", "They lie there then, upward.");
        OneWayTown x = Check.told("house a people 0;house b at a street 9 people 9;house c at b street 9 people 0;"
                + "house d at c street 9 people 9;house e at d street 9 people 0;house f at e street 9 people 9;"
                + "house g at f street 9 people 0;house h at g street 9 people 9;");
        x.shops(4);
        Check.lying("upward", x, 1, 3, 5, 7);
        for (int k : Edge.outside(1, 4)) {
            x.shops(4);
            Check.due("four lie there", x.about(9), 4);
            x.shops(k);
            Check.lying("nothing behind shops(" + k + ")", x);
        }
        x = lane(1, 1, 1);
        x.shops(4);
        Check.lying("all, if there are fewer", x, 0);
        x = lane(3, 1, 1);
        x.shops(4);
        Check.lying("all, if there are fewer", x, 0, 1, 2);
    }

    private static void countedAnswers() {
        Check.says("Promise 25", "COUNTED;");
        counted("no houses", new OneWayTown(), 1, 1, 0, 1);
        counted("four in a star", star(4, 9, 0), 9, 9, 11, 4);
    }

    private static void countedRefused() {
        Check.says("Promise 25", "NONE for another what.");
        for (int size : SIZES) {
            OneWayTown x = lane(size, 5, 1);
            for (int what : Edge.outside(0, 3)) {
                Check.due("counted(" + what + ") of " + size, x.counted(what), -1);
            }
        }
    }

    private static void bestNewsAnswers() {
        Check.says("Promise 27", "BEST for NEWS; NONE without HOUSES.");
        Check.due("no houses", new OneWayTown().bestNews(), -1);
        Check.due("no houses told", Check.told("draw 5;").bestNews(), -1);
        OneWayTown x = lane(1, 1, 1);
        Check.due("one house", x.bestNews(), 0);
        x.town();
        Check.due("none any more", x.bestNews(), -1);
        // A star with house 13 in its middle, and a lane from there.
        x = new OneWayTown();
        x.grown(14, 0xdddddddddd10L);
        Check.due("the best of a greater number", x.bestNews() > 0, true);
        for (int house = 0; house < 14; house++) {
            Check.due("none is better than the best", x.news(house) >= x.news(x.bestNews()), true);
            Check.due("none ahead is as good", house >= x.bestNews() || x.news(house) > x.news(x.bestNews()), true);
        }
    }
}
