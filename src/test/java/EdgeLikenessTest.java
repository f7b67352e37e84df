import java.util.HashSet;
import java.util.Set;

/** The boundary cases of likeness, marks and laws: part 4 of the terms, promises 29 to 32 and 34. */
public final class EdgeLikenessTest {
    public static void main(String[] args) {
        aliveTowns();
        likeItself();
        unlikeTowns();
        marksTold();
        grownFromMarks();
        lawsTried();
        joinedElsewhere();
        alikeAnswers();
        alikeRefused();
        selvesAnswer();
        unlikeAnswers();
        marksAnswer();
        triedAnswers();
        Check.finish("EdgeLikenessTest");
    }

    private static OneWayTown lane(int houses) {
        return Check.told(Edge.lane(houses, 3, 1));
    }

    private static OneWayTown star(int houses) {
        return Check.told(Edge.star(houses, 3, 1));
    }

    /** Keeps one town, makes the other of it by marks, and asks. */
    private static int alikeByMarks(int n, long one, long other) {
        OneWayTown x = new OneWayTown();
        x.grown(n, one);
        x.image(1);
        x.grown(n, other);
        Check.due("with and without lengths", x.alike(1, true), x.alike(1, false));
        return x.alike(1, true);
    }

    private static void aliveTowns() {
        Check.says("Terms 4", "ALIKE: the TOWN as it is and that kept in a BOX, if HOUSES can be taken for one another so that "
                + "streets (of like length, if lengths count; people don't) go to streets.");
        OneWayTown x = new OneWayTown();
        x.image(0);
        Check.due("two without houses", x.alike(0, true), 1);
        Check.due("two without houses", x.alike(0, false), 1);
        x.grown(2, 0);
        Check.due("none and two", x.alike(0, false), 0);
        x.image(1);
        x.back(0);
        Check.due("two and none", x.alike(1, false), 0);
        x = Check.told("house a people 0;");
        x.image(0);
        x.live(0, 99);
        Check.due("one and one", x.alike(0, true), 1);
        x.grow(0, 1, 1);
        Check.due("two and one", x.alike(0, false), 0);
        // A street 1 longer or shorter.
        x = Check.told("house a;house b at a street 98;");
        x.image(0);
        x.undo();
        x.grown(2, 0);
        Check.due("lengths left aside", x.alike(0, false), 1);
        Check.due("lengths count", x.alike(0, true), 0);
        // The same lengths in another order along a lane: 1 2 3 and 1 3 2.
        x = Check.told("house a;house b at a street 1;house c at b street 2;house d at c street 3;");
        x.image(0);
        x.move(3, 0);
        Check.due("3 1 2, lengths left aside", x.alike(0, false), 1);
        Check.due("3 1 2, lengths count", x.alike(0, true), 0);
        // Told from the other end: 3 2 1.
        x = Check.told("house a;house b at a street 1;house c at b street 2;house d at a street 3;");
        x.image(0);
        x.move(2, 0);
        x.move(1, 2);
        Check.due("2 1 3 and 1 2 3 are not alike", x.alike(0, true), 0);
        x.move(1, 0);
        x.move(2, 1);
        Check.due("as it was", x.alike(0, true), 1);
        // No house is taken for two: streets of 1, 1, 2 and of 1, 2, 2 at one house.
        x = Check.told("house a;house b at a street 1;house c at a street 2;");
        x.grow(0, 1, 1);
        x.image(0);
        x.undo();
        x.grow(0, 2, 1);
        Check.due("1, 1, 2 and 1, 2, 2, lengths count", x.alike(0, true), 0);
        Check.due("1, 1, 2 and 1, 2, 2, lengths left aside", x.alike(0, false), 1);
        // Branches: a row of three and another one, or a row of three and a fork of three.
        Check.due("a row is not a fork", alikeTold("house a;house b at a street 1;house c at b street 1;house d at c street 1;"
                + "house e at a street 1;house f at e street 1;house g at f street 1;", 6, 4), 0);
        // Seen from house 0, which is in a row of three: the other branches are no row, though the one come from is.
        Check.due("the branch come from is used", alikeTold("house a;house b at a street 1;house c at b street 1;"
                + "house d at a street 1;house e at d street 1;house f at d street 1;house g at f street 1;house h at g street 1;",
                7, 5), 0);
        Check.due("full stars with other middles", alikeByMarks(14, 0, 0xddddddddddddL), 1);
        Check.due("full lanes", alikeByMarks(14, 0xcba987654321L, 0x123456789abcL), 1);
        Check.due("a full star and a full lane", alikeByMarks(14, 0, 0x123456789abcL), 0);
        // Like numbers of streets at the houses, another form: a side street of a lane of six at the second or third house.
        Check.due("at the second or the third house", alikeByMarks(7, 0x54321L, 0x54322L), 0);
    }

    /** Whether a town is like itself with a house moved: asked both ways round. */
    private static int alikeTold(String text, int house, int at) {
        OneWayTown x = Check.told(text);
        x.image(0);
        Check.due("it can be moved", x.move(house, at), true);
        x.image(1);
        int one = x.alike(0, true);
        x.undo();
        Check.due("the other way round", x.alike(1, true), one);
        return one;
    }

    private static void likeItself() {
        Check.says("Terms 4", "SELVES: in how many ways so a TOWN is like itself.");
        long ways = 1;
        for (int houses = 3; houses <= 14; houses++) {
            ways *= houses - 1;
            Check.due("a star of " + houses, star(houses).selves(true), ways);
            Check.due("a star of " + houses, star(houses).selves(false), ways);
            Check.due("a lane of " + houses, lane(houses).selves(true), 2);
        }
        Check.due("thirteen at one, more than an int", ways, 6227020800L);
        Check.due("two with a street of 99", Check.told("house a;house b at a street 99;").selves(true), 2);
        Check.due("people don't count", Check.told("house a people 0;house b at a street 1 people 99;").selves(true), 2);
        OneWayTown x = Check.told("house a;house b at a street 1;house c at a street 2;");
        Check.due("unlike lengths", x.selves(true), 1);
        Check.due("unlike lengths left aside", x.selves(false), 2);
        // House 0 an end, its like far off: two like halves joined by a street.
        x = Check.told("house a;house b at a street 4;house c at b street 5;house d at c street 4;");
        Check.due("two halves", x.selves(true), 2);
    }

    private static void unlikeTowns() {
        Check.says("Terms 4", "UNLIKE of a size (1 .. 14): how many towns of so many HOUSES no two of which are ALIKE, "
                + "lengths left aside.");
        int[] known = {1, 1, 1, 2, 3, 6, 11, 23, 47, 106, 235, 551, 1301, 3159};
        for (int size = 1; size <= 14; size++) {
            Check.due("unlike(" + size + ")", new OneWayTown().unlike(size), known[size - 1]);
        }
        // Counted by the class's own likeness: towns grown from all marks, each new one kept as a row of marks.
        for (int n = 2; n <= 6; n++) {
            Check.due("unlike towns of " + n, unlikeByTrying(n), known[n - 1]);
        }
    }

    private static int unlikeByTrying(int n) {
        Set<Long> kinds = new HashSet<>();
        long towns = Math.round(Math.pow(n, n - 2));
        for (long number = 0; number < towns; number++) {
            long marks = 0;
            long rest = number;
            for (int i = 0; i < n - 2; i++) {
                marks |= rest % n << 4 * i;
                rest /= n;
            }
            boolean found = false;
            for (long kind : kinds) {
                OneWayTown x = new OneWayTown();
                x.grown(n, kind);
                x.image(0);
                x.grown(n, marks);
                if (x.alike(0, false) == 1) {
                    found = true;
                    break;
                }
            }
            if (!found) {
                kinds.add(marks);
            }
        }
        return kinds.size();
    }

    private static void marksTold() {
        Check.says("Terms 4", "MARKS: again and again the HOUSE of the least number that has one street is taken away, "
                + "and its neighbour is told, till two are left.");
        marks("no houses", new OneWayTown());
        marks("one", lane(1));
        marks("two", lane(2));
        marks("three", lane(3), 1);
        marks("four in a row", lane(4), 1, 2);
        marks("a full lane", lane(14), 1, 2, 3, 4, 5, 6, 7, 8, 9, 10, 11, 12);
        marks("a full star", star(14), 0, 0, 0, 0, 0, 0, 0, 0, 0, 0, 0, 0);
        // House 0 is taken away as soon as it is the least with one street.
        marks("house 0 in between", Check.told("house a;house b at a street 1;house c at a street 1;house d at c street 1;"), 0, 2);
        marks("the least, not the first told", Check.told("house a;house b at a street 1;house c at b street 1;"
                + "house d at a street 1;"), 1, 0);
    }

    private static void marks(String when, OneWayTown x, int... want) {
        Check.due(when + ": marks()", x.marks(), want.length);
        Check.lying(when, x, want);
    }

    private static void grownFromMarks() {
        Check.says("Terms 4", "A TOWN can be GROWN from MARKS (numbers below n, n - 2 of them, n 2 .. 14): the HOUSES, "
                + "each hanging as by WAYS from HOUSE 0, streets 1 long.");
        // All rows of marks for few houses: each grows a town, all towns differ, and each tells its marks again.
        for (int n = 2; n <= 5; n++) {
            Set<String> towns = new HashSet<>();
            long count = Math.round(Math.pow(n, n - 2));
            for (long number = 0; number < count; number++) {
                int[] row = new int[n - 2];
                long marks = 0;
                long rest = number;
                for (int i = 0; i < n - 2; i++) {
                    row[i] = (int) (rest % n);
                    marks |= (long) row[i] << 4 * i;
                    rest /= n;
                }
                OneWayTown x = new OneWayTown();
                Check.due("grown", x.grown(n, marks), true);
                towns.add(Edge.town(x).toString());
                marks("marks of grown ones", x, row);
                hangsFromFirst(x, n);
            }
            Check.due("towns of " + n, towns.size(), count);
        }
        long[] full = {0, 0xddddddddddddL, 0x123456789abcL, 0xcba987654321L, 0xd0d0d0d0d0d0L};
        for (long marks : full) {
            OneWayTown x = new OneWayTown();
            Check.due("fourteen", x.grown(14, marks), true);
            hangsFromFirst(x, 14);
        }
        Check.due("a mark of n", new OneWayTown().grown(13, 13), false);
        Check.due("a mark of n - 1", new OneWayTown().grown(13, 12), true);
        Check.due("n 1", new OneWayTown().grown(1, 0), false);
        Check.due("n 15", new OneWayTown().grown(15, 0), false);
    }

    /** Each but house 0 hangs at the next one on its way to house 0, by a street of 1. */
    private static void hangsFromFirst(OneWayTown x, int n) {
        Check.due("house 0 hangs at none", x.house(0, 0), -1);
        Check.due("house 0 has no street of its own", x.house(0, 1), 0);
        for (int house = 1; house < n; house++) {
            x.way(house, 0);
            Check.due("hangs as by ways from house 0", x.house(house, 0), x.lies(1));
            Check.due("streets 1 long", x.house(house, 1), 1);
        }
    }

    private static void lawsTried() {
        Check.says("Terms 4", "LAWS TRIED on all towns of n HOUSES (2 .. 6), one from each row of MARKS, streets 1 long: "
                + "0: the least FAR is that of one HOUSE, or of two with a street between them; 1: of any four HOUSES the two "
                + "greatest of the three sums of WAYS are alike; 2: WARDENS within 1 are as many as by ends (again and again the "
                + "HOUSE farthest from HOUSE 0, of like ones the first, of those that have none so near yet gets one at the HOUSE "
                + "that it hangs at, HOUSE 0 at itself): for how many it is not so.");
        for (int law = 0; law < 3; law++) {
            for (int n = 2; n <= 6; n++) {
                Check.due("law " + law + " on towns of " + n, new OneWayTown().tried(law, n), 0);
            }
        }
        // What the object has of its own is of no matter, and stays.
        Edge.refused("tried(2, 6)", Edge::busy, x -> x.tried(2, 6), 0);
    }

    private static void joinedElsewhere() {
        Check.says("Terms 4", "JOINED: a street (of a HOUSE, as in MOVED) is taken, and as long as it was joins some HOUSE of the "
                + "part cut off and some HOUSE of the other one, so that the longest WAY is shortest; of like ones the first two "
                + "(that of the part cut off counts most).");
        joined("two: nowhere else", Check.told("house a;house b at a street 9;"), 1, 9, 1, 0);
        joined("three: a star", Check.told(Edge.lane(3, 9, 1)), 2, 18, 2, 0);
        joined("four: the middle", Check.told(Edge.lane(4, 9, 1)), 3, 18, 3, 1);
        // Of like ones: the least house of the part cut off, though another pair has the lesser other one.
        joined("like ones", Check.told(Edge.lane(4, 9, 1)), 1, 18, 2, 0);
        joined("two parts of two", Check.told(Edge.lane(4, 9, 1)), 2, 27, 2, 0);
        // The longest way lies within a part: any pair that makes none longer, so the first one.
        joined("within a part", Check.told("house a;house b at a street 99;house c at a street 99;house d at a street 1;"), 3, 198, 3, 0);
        OneWayTown x = Check.told("house a;house b at a street 50;house c at b street 50;house d at b street 1;");
        joined("first of the other part", x, 3, 100, 3, 1);
        x.move(3, 0);
        joined("from elsewhere", x, 3, 100, 3, 1);
        Check.due("as it was", x.house(3, 0), 0);
        // Asked one behind the other, of a long part and a short one, as of a new object each.
        x = Check.told(Edge.lane(14, 9, 1));
        int[] order = {7, 13, 1, 12, 6, 13, 2, 7, 1};
        for (int house : order) {
            OneWayTown fresh = Check.told(Edge.lane(14, 9, 1));
            for (int what = 0; what < 3; what++) {
                Check.due("behind others: joined(" + house + ", " + what + ")", x.joined(house, what), fresh.joined(house, what));
            }
        }
        joined("behind others", x, 13, 108, 13, 1);
    }

    private static void joined(String when, OneWayTown x, int house, int longest, int inner, int outer) {
        Check.due(when + ": joined(" + house + ", 0)", x.joined(house, 0), longest);
        Check.due(when + ": joined(" + house + ", 1)", x.joined(house, 1), inner);
        Check.due(when + ": joined(" + house + ", 2)", x.joined(house, 2), outer);
    }

    private static void alikeAnswers() {
        Check.says("Promise 29", "1 if the TOWN is ALIKE that in a BOX (lengths count, or not), else 0");
        for (int box = 0; box < 3; box++) {
            OneWayTown x = lane(3);
            x.image(box);
            Check.due("box " + box, x.alike(box, true), 1);
            x.grow(0, 4, 1);
            Check.due("box " + box, x.alike(box, true), 0);
            x.undo();
            Check.due("box " + box, x.alike(box, true), 1);
            x.grown(3, 2);
            Check.due("box " + box + ", lengths left aside", x.alike(box, false), 1);
            Check.due("box " + box + ", lengths count", x.alike(box, true), 0);
            Check.due("the box stays as it was", x.back(box), 3);
            Check.due("its streets", x.house(1, 1), 3);
        }
    }

    private static void alikeRefused() {
        Check.says("Promise 29", "NONE if nothing is there.");
        for (int box : Edge.outside(0, 2)) {
            Check.due("alike(" + box + ", true)", Edge.busy().alike(box, true), -1);
            Check.due("alike(" + box + ", false)", new OneWayTown().alike(box, false), -1);
        }
        for (int filled = 0; filled < 3; filled++) {
            OneWayTown x = lane(3);
            x.image(filled);
            for (int box = 0; box < 3; box++) {
                Check.due("box " + box + " with box " + filled + " filled", x.alike(box, false), box == filled ? 1 : -1);
            }
        }
        OneWayTown x = new OneWayTown();
        x.image(2);
        Check.due("a box with a town of no houses is not empty", x.alike(2, true), 1);
        x.town();
        Check.due("behind town() it is", x.alike(2, true), -1);
    }

    private static void selvesAnswer() {
        Check.says("Promise 30", "SELVES.");
        Check.due("no houses", new OneWayTown().selves(true), 1);
        Check.due("no houses", new OneWayTown().selves(false), 1);
        Check.due("one", lane(1).selves(true), 1);
        Check.due("two", lane(2).selves(true), 2);
        Check.due("the most", star(14).selves(false), 6227020800L);
    }

    private static void unlikeAnswers() {
        Check.says("Promise 31", "UNLIKE; NONE if the size can't be.");
        OneWayTown x = new OneWayTown();
        for (int size : Edge.outside(1, 14)) {
            Check.due("unlike(" + size + ")", x.unlike(size), -1);
        }
        Check.due("unlike(1)", x.unlike(1), 1);
        Check.due("unlike(14)", x.unlike(14), 3159);
        Check.due("then a lesser one", x.unlike(13), 1301);
    }

    private static void marksAnswer() {
        Check.says("Promise 32", "MARKS: how many; they lie there then.");
        for (int houses = 0; houses <= 14; houses++) {
            OneWayTown x = lane(houses);
            x.quarters(1);
            Check.due("marks of " + houses, x.marks(), Math.max(0, houses - 2));
            Check.due("they lie there", x.about(9), Math.max(0, houses - 2));
            Check.due("none behind them", x.lies(Math.max(0, houses - 2)), -1);
        }
        OneWayTown x = lane(2);
        x.way(0, 1);
        x.marks();
        Check.lying("nothing lies there with two", x);
    }

    private static void triedAnswers() {
        Check.says("Promise 34", "LAWS TRIED: for how many towns it is not so; NONE if one can't be.");
        OneWayTown x = new OneWayTown();
        for (int law : Edge.outside(0, 2)) {
            Check.due("tried(" + law + ", 2)", x.tried(law, 2), -1);
            Check.due("tried(" + law + ", 6)", x.tried(law, 6), -1);
        }
        for (int n : Edge.outside(2, 6)) {
            for (int law = 0; law < 3; law++) {
                Check.due("tried(" + law + ", " + n + ")", x.tried(law, n), -1);
            }
        }
        for (int law = 0; law < 3; law++) {
            Check.due("tried(" + law + ", 2)", x.tried(law, 2), 0);
            Check.due("tried(" + law + ", 6)", x.tried(law, 6), 0);
            Check.due("tried again", x.tried(law, 6), 0);
        }
    }
}
