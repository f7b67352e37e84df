import java.util.function.Supplier;

/** The boundary cases of acts: part 2 of the terms, promises 12 to 17, 33, 42 and 43. */
public final class EdgeActsTest {
    public static void main(String[] args) {
        housesGrow();
        streetsMove();
        peopleChange();
        seedWraps();
        fires();
        yearsGrow();
        yearsOfFullTowns();
        undoneAndRedone();
        fortyKept();
        growAnswers();
        growRefused();
        growAct();
        moveTrue();
        moveRefused();
        moveAct();
        liveAnswers();
        liveRefused();
        liveAct();
        yearsAnswers();
        yearsRefused();
        yearsAct();
        undoTrue();
        undoFalse();
        redoTrue();
        redoFalse();
        grownBits();
        grownTrue();
        grownRefused();
        imageKeeps();
        imageRefused();
        backGoes();
        backRefused();
        Check.finish("EdgeActsTest");
    }

    private static OneWayTown row(int houses) {
        return Check.told(Edge.lane(houses, 2, 3));
    }

    private static void housesGrow() {
        Check.says("Terms 2", "In earnest a TOWN goes on. ACTS: a HOUSE grows at another one (14 at most; no CART is there)");
        OneWayTown x = Check.told("house a;house b at a street 1;cart c at a to b;cart d at b to a;");
        Check.due("two carts in a lane", x.carts(0), -1);
        for (int house = 2; house < 14; house++) {
            Check.due("grow at the one ahead", x.grow(house - 1, 5, 5), house);
            Check.due("it hangs there", x.house(house, 0), house - 1);
        }
        Check.due("a fifteenth", x.grow(0, 5, 5), -1);
        Check.due("fourteen stay", x.about(0), 14);
        Check.due("no cart more", x.about(3), 2);
        x.undo();
        Check.due("there is room again", x.grow(0, 6, 7), 13);
        Check.due("at house 0", x.house(13, 0), 0);
        // No cart is in the new house: one can go there.
        x = Check.told("house a;house b at a street 1;house c at b street 1;cart c at a to c;cart d at c to a;");
        Check.due("they can't pass", x.carts(0), -1);
        x.grow(1, 1, 1);
        Check.due("now they can", x.carts(0), 6);
        Check.due("at a house where a cart is", x.grow(0, 1, 1), 4);
    }

    private static void streetsMove() {
        Check.says("Terms 2", "a street is MOVED: that between a HOUSE and the one that it hangs at (as told or grown, or MOVED: "
                + "all but HOUSE 0 hang at one) is taken, and joins the HOUSE to another one, that is not behind it "
                + "(by WAYS from HOUSE 0), as long as it was");
        OneWayTown x = Check.told("house a;house b at a street 99;house c at b street 1;house d at c street 50;");
        Check.due("house 0 hangs at none", x.move(0, 3), false);
        Check.due("to itself", x.move(1, 1), false);
        Check.due("to one right behind it", x.move(1, 2), false);
        Check.due("to one far behind it", x.move(1, 3), false);
        Check.due("the last to the first", x.move(3, 0), true);
        Check.due("as long as it was", x.house(3, 1), 50);
        Check.due("one that was behind it", x.move(1, 3), true);
        Check.due("as long as it was", x.house(1, 1), 99);
        Check.due("now the other is behind", x.move(3, 2), false);
        Check.due("far", x.far(0), 150);
        Check.due("house 0 hangs at none still", x.house(0, 0), -1);
        // As grown, and as grown from marks.
        Check.due("grown", x.grow(2, 7, 7), 4);
        Check.due("what was grown", x.move(4, 0), true);
        Check.due("as long as it was", x.house(4, 1), 7);
        x.grown(3, 2);
        Check.due("from marks: 0 - 2 - 1", x.house(1, 0), 2);
        Check.due("2 is not behind 1", x.move(2, 1), false);
        Check.due("1 to 0", x.move(1, 0), true);
        // All of a full lane, hung at house 0 one by one, then in a row the other way round.
        x = Check.told(Edge.lane(14, 9, 1));
        for (int house = 13; house > 1; house--) {
            Check.due("to the first", x.move(house, 0), true);
        }
        Check.due("a star", x.house(0, 3), 13);
        for (int house = 1; house < 13; house++) {
            Check.due("to the next", x.move(house, house + 1), true);
        }
        Check.due("a lane", x.way(0, 1), 13 * 9);
        Check.due("all are behind the last", x.move(13, 1), false);
    }

    private static void peopleChange() {
        Check.says("Terms 2", "people of a HOUSE become more or fewer");
        OneWayTown x = Check.told("house a people 50;house b at a street 1 people 50;");
        Check.due("fewer", x.live(0, 0), 50);
        Check.due("more", x.live(1, 99), 50);
        Check.due("together", x.about(1), 99);
        Check.due("the streets stay", x.way(0, 1), 1);
        Check.due("quiet then", x.quiet(), 2);
        x.live(0, 99);
        Check.due("quiet of like ones", x.quiet(), 1);
    }

    private static int next(int seed) {
        return (int) ((137L * seed + 71) % 1000);
    }

    private static void seedWraps() {
        Check.says("Terms 2", "so many YEARS: in each the SEED (draw at first) becomes its 137-fold and 71 more, modulo 1,000");
        int[] seeds = {0, 1, 6, 7, 8, 17, 499, 500, 777, 998, 999};
        for (int seed : seeds) {
            OneWayTown x = Check.told("house a;draw " + seed + ";");
            Check.due("draw at first", x.about(10), seed);
            int want = seed;
            for (int year = 0; year < 20; year++) {
                x.years(1);
                want = next(want);
                Check.due("the seed of year " + year + " from " + seed, x.about(10), want);
            }
        }
        // Known by hand: 7 -> 1030 -> 30; 999 -> 136934 -> 934; 17 -> 2400 -> 400.
        int[][] known = {{0, 71}, {6, 893}, {7, 30}, {999, 934}, {17, 400}};
        for (int[] pair : known) {
            OneWayTown x = Check.told("house a;draw " + pair[0] + ";");
            x.years(1);
            Check.due("from " + pair[0], x.about(10), pair[1]);
        }
        OneWayTown x = Check.told("house a;draw 999;");
        int want = 999;
        for (int year = 0; year < 50; year++) {
            want = next(want);
        }
        x.years(50);
        Check.due("fifty at once", x.about(10), want);
    }

    private static void fires() {
        Check.says("Terms 2", "if its rest by 4 is 0, a fire: of HOUSES with one street that of the greatest number "
                + "has no people any more (none burns in a town of one)");
        OneWayTown x = Check.told("house a people 9;draw 17;");
        Check.due("a town of one", x.years(1), 1);
        Check.due("the seed is one of a fire", x.about(10), 400);
        Check.due("it does not burn", x.house(0, 2), 9);
        x = Check.told("house a people 8;house b at a street 1 people 9;draw 17;");
        Check.due("two houses", x.years(1), 2);
        Check.due("the greater one", x.house(1, 2), 0);
        Check.due("not the less", x.house(0, 2), 8);
        // Only house 0 and house 2 have one street.
        x = Check.told("house a people 8;house b at a street 1 people 9;house c at a street 1 people 7;draw 17;");
        x.move(2, 1);
        x.move(1, 0);
        x.years(1);
        Check.due("2 burns", x.house(2, 2), 0);
        x = Check.told("house a people 8;house b at a street 1 people 9;house c at a street 1 people 7;draw 17;");
        x.move(1, 2);
        x.years(1);
        Check.due("the greatest number has two streets: 1 burns", x.house(1, 2), 0);
        Check.due("2 does not", x.house(2, 2), 7);
        // House 0 is the only other end of a lane, and never the greatest of two ends.
        x = Check.told(Edge.lane(14, 1, 5) + "draw 17;");
        Check.due("a full town burns", x.years(1), 14);
        Check.due("its last house", x.house(13, 2), 0);
        Check.due("no other", x.about(1), 65);
        x.undo();
        Check.due("undone", x.about(1), 70);
        // A house without people burns all the same, and nothing else does.
        x = Check.told("house a people 8;house b at a street 1 people 0;draw 17;");
        x.years(1);
        Check.due("no people there", x.about(1), 8);
    }

    private static void yearsGrow() {
        Check.says("Terms 2", "else, with fewer than 14 HOUSES, one grows at the HOUSE of its rest by how many there are, "
                + "a street of 1 and its rest by 9 long, people its rest by 5");
        // Seeds whose next one has the rest 0, 8 by 9 and 0, 4 by 5, and no rest 0 by 4.
        boolean[] streets = new boolean[10];
        boolean[] people = new boolean[5];
        for (int seed = 0; seed < 1000; seed++) {
            int then = next(seed);
            if (then % 4 == 0) {
                continue;
            }
            int houses = 1 + seed % 13;
            OneWayTown x = Check.told(Edge.lane(houses, 1, 1) + "draw " + seed + ";");
            Check.due("one more", x.years(1), houses + 1);
            Check.due("where, from " + seed, x.house(houses, 0), then % houses);
            Check.due("street, from " + seed, x.house(houses, 1), 1 + then % 9);
            Check.due("people, from " + seed, x.house(houses, 2), then % 5);
            streets[1 + then % 9] = true;
            people[then % 5] = true;
        }
        for (int i = 1; i < 10; i++) {
            Check.due("a street of " + i, streets[i], true);
        }
        for (int i = 0; i < 5; i++) {
            Check.due("people " + i, people[i], true);
        }
        OneWayTown x = Check.told(Edge.lane(13, 1, 1));
        Check.due("thirteen become fourteen", x.years(1), 14);
        Check.due("fourteen stay", x.years(1), 14);
    }

    private static void yearsOfFullTowns() {
        Check.says("Terms 2", "else in the HOUSE of that rest there is one more (99 at most).");
        for (int seed = 0; seed < 1000; seed += 3) {
            int then = next(seed);
            if (then % 4 == 0) {
                continue;
            }
            int people = 97 + seed % 3;
            OneWayTown x = Check.told(Edge.star(14, 1, people) + "draw " + seed + ";");
            Check.due("fourteen stay", x.years(1), 14);
            for (int house = 0; house < 14; house++) {
                int more = house == then % 14 && people < 99 ? 1 : 0;
                Check.due("people of " + house + " from " + seed, x.house(house, 2), people + more);
            }
        }
    }

    private static void undoneAndRedone() {
        Check.says("Terms 2", "UNDO takes back the latest ACT that was not, REDO does that again which was taken back last "
                + "(till another ACT)");
        OneWayTown x = row(3);
        x.live(0, 10);
        x.live(0, 20);
        x.live(0, 30);
        x.undo();
        Check.due("the latest", x.house(0, 2), 20);
        x.undo();
        Check.due("the latest that was not", x.house(0, 2), 10);
        x.redo();
        Check.due("that taken back last", x.house(0, 2), 20);
        x.undo();
        Check.due("and again", x.house(0, 2), 10);
        x.live(1, 77);
        Check.due("another act ends it", x.redo(), false);
        Check.due("nothing done again", x.house(0, 2), 10);
        x.undo();
        Check.due("the other act is undone", x.house(1, 2), 3);
        Check.due("the one ahead is not", x.house(0, 2), 10);
        x.redo();
        Check.due("the other act", x.house(1, 2), 77);
        // Each sort of act ends it; what is no act does not, nor does an act that can't be.
        for (int sort = 0; sort < 5; sort++) {
            OneWayTown y = row(3);
            y.live(0, 10);
            y.undo();
            act(y, sort);
            Check.due("act of sort " + sort + ": redo", y.redo(), false);
            Check.due("act of sort " + sort + ": kept", y.about(4), 1);
        }
        OneWayTown y = row(3);
        y.live(0, 10);
        y.undo();
        y.image(0);
        y.distance(0, 1, 5);
        y.later(5);
        y.way(0, 1);
        y.grow(9, 1, 1);
        y.move(0, 1);
        y.live(0, 100);
        y.years(51);
        y.grown(1, 0);
        Check.due("no act between: redo", y.redo(), true);
        Check.due("it is so again", y.house(0, 2), 10);
    }

    private static void act(OneWayTown x, int sort) {
        switch (sort) {
            case 0: x.grow(0, 1, 1); break;
            case 1: x.move(2, 0); break;
            case 2: x.live(1, 8); break;
            case 3: x.years(0); break;
            default: x.grown(3, 0); break;
        }
    }

    private static void fortyKept() {
        Check.says("Terms 2", "40 at most are kept, the oldest go.");
        int[] counts = {39, 40, 41, 42, 80, 81, 82, 83, 99};
        for (int acts : counts) {
            OneWayTown x = Check.told("house a people 0;");
            for (int i = 1; i <= acts; i++) {
                x.live(0, i);
            }
            int kept = Math.min(acts, 40);
            Check.due("kept of " + acts, x.about(4), kept);
            for (int i = 1; i <= kept; i++) {
                Check.due("undo " + i + " of " + acts, x.undo(), true);
                Check.due("people then", x.house(0, 2), acts - i);
            }
            Check.due("undo of one more than " + kept, x.undo(), false);
            Check.due("people stay", x.house(0, 2), acts - kept);
            Check.due("to be done again", x.about(5), kept);
            for (int i = 1; i <= kept; i++) {
                Check.due("redo " + i + " of " + acts, x.redo(), true);
                Check.due("people then", x.house(0, 2), acts - kept + i);
            }
            Check.due("redo of one more", x.redo(), false);
            Check.due("people stay", x.house(0, 2), acts);
        }
        // Some taken back in a full row, then others: the row has forty again.
        OneWayTown x = Check.told("house a people 0;");
        for (int i = 1; i <= 50; i++) {
            x.live(0, i);
        }
        for (int i = 0; i < 5; i++) {
            x.undo();
        }
        Check.due("35 and 5", x.about(4) * 100 + x.about(5), 3505);
        for (int i = 0; i < 5; i++) {
            x.live(0, 60 + i);
        }
        Check.due("40 and none", x.about(4) * 100 + x.about(5), 4000);
        x.live(0, 99);
        Check.due("40 still", x.about(4), 40);
        int[] people = {64, 63, 62, 61, 60, 45, 44};
        for (int want : people) {
            x.undo();
            Check.due("people then", x.house(0, 2), want);
        }
        for (int i = 0; i < 33; i++) {
            Check.due("undo", x.undo(), true);
        }
        Check.due("no more", x.undo(), false);
        Check.due("the oldest are gone", x.house(0, 2), 11);
    }

    private static void growAnswers() {
        Check.says("Promise 12", "A HOUSE grows at another one, its street so long (1 .. 99), people (0 .. 99): its number");
        OneWayTown x = Check.told("house a;");
        Check.due("grow(0, 1, 0)", x.grow(0, 1, 0), 1);
        Check.due("grow(1, 99, 99)", x.grow(1, 99, 99), 2);
        int[][] want = {{-1, 0, 1, 1}, {0, 1, 0, 2}, {1, 99, 99, 1}};
        for (int house = 0; house < 3; house++) {
            for (int what = 0; what < 4; what++) {
                Check.due("house(" + house + ", " + what + ")", x.house(house, what), want[house][what]);
            }
        }
        Check.due("way", x.way(0, 2), 100);
        Check.due("thirteen and one", row(13).grow(12, 1, 1), 13);
    }

    private static void growRefused() {
        Check.says("Promise 12", "NONE, doing nothing, if one can't be, or there are 14.");
        int[] sizes = {0, 1, 2, 13};
        for (int size : sizes) {
            for (int at : Edge.outside(0, size - 1)) {
                Check.due("grow(" + at + ", 1, 1) of " + size, row(size).grow(at, 1, 1), -1);
            }
        }
        for (int street : Edge.outside(1, 99)) {
            Check.due("grow(0, " + street + ", 1)", row(2).grow(0, street, 1), -1);
        }
        for (int people : Edge.outside(0, 99)) {
            Check.due("grow(0, 1, " + people + ")", row(2).grow(0, 1, people), -1);
        }
        int[][] refused = {{-1, 1, 1}, {7, 1, 1}, {0, 0, 1}, {0, 100, 1}, {0, 1, -1}, {0, 1, 100}, {-1, 0, -1},
            {Integer.MAX_VALUE, Integer.MAX_VALUE, Integer.MAX_VALUE}, {Integer.MIN_VALUE, Integer.MIN_VALUE, Integer.MIN_VALUE}};
        for (int[] g : refused) {
            Edge.refused("grow(" + g[0] + ", " + g[1] + ", " + g[2] + ")", Edge::busy, x -> x.grow(g[0], g[1], g[2]), -1);
        }
        Edge.refused("grow without houses", OneWayTown::new, x -> x.grow(0, 1, 1), -1);
        Supplier<OneWayTown> full = () -> {
            OneWayTown x = row(13);
            x.live(0, 9);
            x.grow(12, 5, 5);
            x.undo();
            x.redo();
            return x;
        };
        Edge.refused("grow of a fifteenth", full, x -> x.grow(0, 1, 1), -1);
        Edge.refused("grow of a fifteenth", full, x -> x.grow(13, 99, 0), -1);
    }

    /** Looks whether a call is an act: kept, undone, done again. */
    private static void isAct(String call, Supplier<OneWayTown> ahead, java.util.function.Consumer<OneWayTown> act) {
        OneWayTown x = ahead.get();
        int kept = x.about(4);
        act.accept(x);
        Check.due(call + ": one more to undo", x.about(4), kept + 1);
        Check.due(call + ": none to do again", x.about(5), 0);
        OneWayTown then = ahead.get();
        act.accept(then);
        Check.due(call + ": undo", x.undo(), true);
        Check.due(call + ": as it was", Edge.town(x).equals(Edge.town(ahead.get())), true);
        Check.due(call + ": redo", x.redo(), true);
        Check.due(call + ": as it was then", Edge.town(x).equals(Edge.town(then)), true);
        Check.due(call + ": one more to undo again", x.about(4), kept + 1);
    }

    private static void growAct() {
        Check.says("Promise 12", "(An ACT.)");
        isAct("grow(0, 1, 0)", Edge::busy, x -> x.grow(0, 1, 0));
        isAct("grow(6, 99, 99)", Edge::busy, x -> x.grow(6, 99, 99));
        isAct("grow at one alone", () -> row(1), x -> x.grow(0, 5, 5));
        isAct("grow of the fourteenth", () -> row(13), x -> x.grow(0, 5, 5));
    }

    private static void moveTrue() {
        Check.says("Promise 13", "A street is MOVED: true");
        OneWayTown x = row(14);
        Check.due("the last to the first", x.move(13, 0), true);
        Check.due("it hangs there", x.house(13, 0), 0);
        Check.due("the first that can to the last", x.move(1, 13), true);
        Check.due("it hangs there", x.house(1, 0), 13);
        Check.due("far", x.far(0), 26);
        x = row(2);
        Check.due("the one street of two, to where it hangs", x.move(1, 0), true);
        Check.due("it hangs there", x.house(1, 0), 0);
    }

    private static void moveRefused() {
        Check.says("Promise 13", "false, doing nothing, if one can't be.");
        int[] sizes = {0, 1, 2, 14};
        for (int size : sizes) {
            for (int house : Edge.outside(1, size - 1)) {
                Check.due("move(" + house + ", 0) of " + size, row(size).move(house, 0), false);
                Check.due("move(" + house + ", 1) of " + size, row(size).move(house, 1), false);
            }
            for (int at : Edge.outside(0, size - 1)) {
                Check.due("move(1, " + at + ") of " + size, row(size).move(1, at), false);
                Check.due("move(13, " + at + ") of " + size, row(size).move(13, at), false);
            }
        }
        // Houses 0 to 6: c at a, d and e at c, f at e, the seventh at b.
        int[][] refused = {{0, 1}, {0, 0}, {2, 2}, {2, 3}, {2, 4}, {2, 5}, {4, 5}, {1, 6}, {7, 0}, {-1, 0}, {1, 7}, {1, -1},
            {Integer.MIN_VALUE, Integer.MAX_VALUE}};
        for (int[] m : refused) {
            Edge.refused("move(" + m[0] + ", " + m[1] + ")", Edge::busy, x -> Edge.truth(x.move(m[0], m[1])), 0);
        }
        Edge.refused("move without houses", OneWayTown::new, x -> Edge.truth(x.move(1, 0)), 0);
    }

    private static void moveAct() {
        Check.says("Promise 13", "(An ACT.)");
        isAct("move(2, 1)", Edge::busy, x -> x.move(2, 1));
        isAct("move(5, 0)", Edge::busy, x -> x.move(5, 0));
        isAct("move(6, 1), where it hangs", Edge::busy, x -> x.move(6, 1));
    }

    private static void liveAnswers() {
        Check.says("Promise 14", "People of a HOUSE: how many there were");
        OneWayTown x = row(14);
        Check.due("live(0, 0)", x.live(0, 0), 3);
        Check.due("live(0, 99)", x.live(0, 99), 0);
        Check.due("live(0, 99)", x.live(0, 99), 99);
        Check.due("live(13, 99)", x.live(13, 99), 3);
        Check.due("live(13, 1)", x.live(13, 1), 99);
        Check.due("people of 0", x.house(0, 2), 99);
        Check.due("people of 13", x.house(13, 2), 1);
        Check.due("others stay", x.about(1), 100 + 36);
    }

    private static void liveRefused() {
        Check.says("Promise 14", "NONE, doing nothing, if one can't be.");
        int[] sizes = {0, 1, 2, 14};
        for (int size : sizes) {
            for (int house : Edge.outside(0, size - 1)) {
                Check.due("live(" + house + ", 5) of " + size, row(size).live(house, 5), -1);
            }
        }
        for (int people : Edge.outside(0, 99)) {
            Check.due("live(0, " + people + ")", row(14).live(0, people), -1);
            Check.due("live(13, " + people + ")", row(14).live(13, people), -1);
        }
        int[][] refused = {{-1, 5}, {7, 5}, {0, -1}, {0, 100}, {6, Integer.MIN_VALUE}, {Integer.MAX_VALUE, 5}};
        for (int[] l : refused) {
            Edge.refused("live(" + l[0] + ", " + l[1] + ")", Edge::busy, x -> x.live(l[0], l[1]), -1);
        }
        Edge.refused("live without houses", OneWayTown::new, x -> x.live(0, 0), -1);
    }

    private static void liveAct() {
        Check.says("Promise 14", "(An ACT.)");
        isAct("live(0, 0)", Edge::busy, x -> x.live(0, 0));
        isAct("live(6, 99)", Edge::busy, x -> x.live(6, 99));
        isAct("live(3, 99), as many as there are", Edge::busy, x -> x.live(3, 99));
    }

    private static void yearsAnswers() {
        Check.says("Promise 15", "YEARS (0 .. 50): how many HOUSES then");
        OneWayTown x = row(3);
        Check.due("years(0)", x.years(0), 3);
        Check.due("the seed stays", x.about(10), 0);
        Check.due("years(1)", x.years(1), 4);
        Check.due("the seed", x.about(10), 71);
        // Fifty at once are as fifty one by one.
        OneWayTown one = Check.told("house a;draw 5;");
        OneWayTown fifty = Check.told("house a;draw 5;");
        for (int i = 0; i < 50; i++) {
            one.years(1);
        }
        Check.due("years(50)", fifty.years(50), 14);
        Check.due("as one by one", Edge.town(fifty).equals(Edge.town(one)), true);
        Check.due("one act", fifty.about(4), 1);
        Check.due("years(49)", Check.told("house a;draw 5;").years(49), 14);
    }

    private static void yearsRefused() {
        Check.says("Promise 15", "NONE, doing nothing, for another number, or without HOUSES.");
        for (int n : Edge.outside(0, 50)) {
            Check.due("years(" + n + ")", row(3).years(n), -1);
            Edge.refused("years(" + n + ")", Edge::busy, x -> x.years(n), -1);
        }
        Supplier<OneWayTown> none = () -> Check.told("draw 5;");
        int[] numbers = {-1, 0, 1, 50, 51};
        for (int n : numbers) {
            Edge.refused("years(" + n + ") without houses", none, x -> x.years(n), -1);
            Edge.refused("years(" + n + ") of a new object", OneWayTown::new, x -> x.years(n), -1);
        }
        OneWayTown x = none.get();
        x.years(3);
        Check.due("the seed stays", x.about(10), 5);
    }

    private static void yearsAct() {
        Check.says("Promise 15", "(An ACT.)");
        isAct("years(0)", Edge::busy, x -> x.years(0));
        isAct("years(1)", Edge::busy, x -> x.years(1));
        isAct("years(50)", Edge::busy, x -> x.years(50));
        isAct("years(50) of a full town", () -> row(14), x -> x.years(50));
    }

    private static void undoTrue() {
        Check.says("Promise 16", "UNDO: true");
        OneWayTown x = row(2);
        x.grow(1, 50, 1);
        Check.due("far", x.far(0), 52);
        Check.due("undo", x.undo(), true);
        Check.due("houses", x.about(0), 2);
        Check.due("ways as they were", x.far(0), 2);
        Check.due("to be done again", x.about(5), 1);
        Check.due("nothing to undo", x.about(4), 0);
    }

    private static void undoFalse() {
        Check.says("Promise 16", "false if there is none.");
        Edge.refused("undo of a new object", OneWayTown::new, x -> Edge.truth(x.undo()), 0);
        Edge.refused("undo of a town just told", () -> row(3), x -> Edge.truth(x.undo()), 0);
        Supplier<OneWayTown> all = () -> {
            OneWayTown x = Edge.busy();
            for (int i = 0; i < 3; i++) {
                x.undo();
            }
            return x;
        };
        Edge.refused("undo of all undone", all, x -> Edge.truth(x.undo()), 0);
        Check.due("all can be done again", all.get().about(5), 5);
    }

    private static void redoTrue() {
        Check.says("Promise 17", "REDO: true");
        OneWayTown x = row(2);
        x.grow(1, 50, 1);
        x.undo();
        Check.due("redo", x.redo(), true);
        Check.due("houses", x.about(0), 3);
        Check.due("ways too", x.far(0), 52);
        Check.due("none to do again", x.about(5), 0);
        Check.due("one to undo", x.about(4), 1);
    }

    private static void redoFalse() {
        Check.says("Promise 17", "false if there is none.");
        Edge.refused("redo of a new object", OneWayTown::new, x -> Edge.truth(x.redo()), 0);
        Edge.refused("redo of a town just told", () -> row(3), x -> Edge.truth(x.redo()), 0);
        Supplier<OneWayTown> all = () -> {
            OneWayTown x = Edge.busy();
            x.redo();
            x.redo();
            return x;
        };
        Edge.refused("redo of all done again", all, x -> Edge.truth(x.redo()), 0);
        Check.due("all can be undone", all.get().about(4), 5);
        Supplier<OneWayTown> other = () -> {
            OneWayTown x = Edge.busy();
            x.live(0, 1);
            return x;
        };
        Edge.refused("redo behind another act", other, x -> Edge.truth(x.redo()), 0);
    }

    private static void grownBits() {
        Check.says("Promise 33", "A TOWN is GROWN from MARKS, of n HOUSES; MARK i is told by bits 4 * i to 4 * i + 3 of a number "
                + "(others are of no matter)");
        // Mark i alone is 1, all others 0: house 1 has one street more, house 0 has all others.
        for (int i = 0; i < 12; i++) {
            OneWayTown x = new OneWayTown();
            Check.due("mark " + i, x.grown(14, 1L << 4 * i), true);
            Check.due("streets of 1", x.house(1, 3), 2);
            Check.due("streets of 0", x.house(0, 3), 12);
            x.marks();
            for (int j = 0; j < 12; j++) {
                Check.due("mark " + j, x.lies(j), i == j ? 1 : 0);
            }
        }
        long[] beyond = {0L, -1L << 48, Long.MIN_VALUE, 1L << 48, 0x7fffL << 48, 15L << 60};
        for (long bits : beyond) {
            OneWayTown x = new OneWayTown();
            Check.due("others are of no matter to 14", x.grown(14, 0x0123456789abL | bits), true);
            Check.due("houses", x.about(0), 14);
            Check.due("the first mark is 11", x.house(0, 3) + 100 * x.house(11, 3), 202);
        }
        for (int n = 2; n < 14; n++) {
            OneWayTown x = new OneWayTown();
            Check.due("others are of no matter to " + n, x.grown(n, -1L << 4 * (n - 2)), true);
            Check.due("all at house 0", x.house(0, 3), n - 1);
        }
        Check.due("none counts for two", new OneWayTown().grown(2, -1L), true);
        Check.due("none counts for two", new OneWayTown().grown(2, Long.MAX_VALUE), true);
    }

    private static void grownTrue() {
        Check.says("Promise 33", "true, it is so in earnest, people 1 in each HOUSE (an ACT)");
        OneWayTown x = Check.told("house a people 50;draw 123;");
        x.grow(0, 9, 9);
        Check.due("grown", x.grown(4, 0x33), true);
        int[][] want = {{-1, 0, 1, 1}, {3, 1, 1, 1}, {3, 1, 1, 1}, {0, 1, 1, 3}};
        for (int house = 0; house < 4; house++) {
            for (int what = 0; what < 4; what++) {
                Check.due("house(" + house + ", " + what + ")", x.house(house, what), want[house][what]);
            }
        }
        Check.due("people together", x.about(1), 4);
        Check.due("streets together", x.about(2), 3);
        Check.due("the seed stays", x.about(10), 123);
        Check.due("far", x.far(0), 2);
        Check.due("none such any more", x.house(4, 0), -2);
        isAct("grown(2, 0)", OneWayTown::new, y -> y.grown(2, 0));
        isAct("grown(14, ..)", OneWayTown::new, y -> y.grown(14, 0xddddddddddddL));
        isAct("fewer houses than before", () -> row(14), y -> y.grown(2, 0));
        isAct("more houses than before", () -> row(1), y -> y.grown(14, 0x123456789abcL));
        isAct("with carts", Edge::busy, y -> y.grown(6, 0x5432));
    }

    private static void grownRefused() {
        Check.says("Promise 33", "false, doing nothing, if one can't be, or a HOUSE of a CART would be missing.");
        for (int n : Edge.outside(2, 14)) {
            Check.due("grown(" + n + ", 0)", row(3).grown(n, 0), false);
        }
        int[] sizes = {0, 1, 15, -1, Integer.MAX_VALUE, Integer.MIN_VALUE};
        for (int n : sizes) {
            Edge.refused("grown(" + n + ", 0)", Edge::busy, x -> Edge.truth(x.grown(n, 0)), 0);
        }
        // A mark as great as n, at each place; the greatest that can be is n - 1.
        for (int n = 3; n <= 14; n++) {
            int last = 4 * (n - 3);
            Check.due("first mark " + n, row(3).grown(n, n), false);
            Check.due("last mark " + n, row(3).grown(n, (long) n << last), false);
            Check.due("last mark 15", row(3).grown(n, 15L << last), false);
            Check.due("first mark " + (n - 1), row(3).grown(n, n - 1), true);
            Check.due("last mark " + (n - 1), row(3).grown(n, (long) (n - 1) << last), true);
        }
        Edge.refused("marks that can't be", Edge::busy, x -> Edge.truth(x.grown(7, 0x70000)), 0);
        Edge.refused("marks that can't be", Edge::busy, x -> Edge.truth(x.grown(14, -1L)), 0);
        Edge.refused("marks that can't be", Edge::busy, x -> Edge.truth(x.grown(14, Long.MAX_VALUE)), 0);
        Edge.refused("marks that can't be", OneWayTown::new, x -> Edge.truth(x.grown(3, 3)), 0);
        // Carts of busy() need houses 0, 1 and 5.
        for (int n = 2; n < 6; n++) {
            int few = n;
            Edge.refused("grown(" + n + ", 0) with carts", Edge::busy, x -> Edge.truth(x.grown(few, 0)), 0);
        }
        Check.due("grown(6, 0) with carts", Edge.busy().grown(6, 0), true);
        String four = Edge.star(14, 1, 1);
        String[] carts = {"cart x at n to b;", "cart x at b to n;", "cart w at a to b;cart x at b to a;cart y at c to d;cart z at d to n;",
            "cart w at a to b;cart x at b to a;cart y at c to d;cart z at n to c;"};
        for (String cart : carts) {
            Check.due("house 13 would be missing: " + cart, Check.told(four + cart).grown(13, 0), false);
            Check.due("house 13 is there: " + cart, Check.told(four + cart).grown(14, 0), true);
        }
        // It is the told house that counts, not how many there are now.
        OneWayTown x = Check.told("house a;house b at a street 1;cart c at a to b;");
        x.years(20);
        Check.due("two are enough", x.grown(2, 0), true);
        Check.due("the cart goes", x.carts(0), 1);
    }

    private static void imageKeeps() {
        Check.says("Promise 42", "The TOWN, the SEED are kept in a BOX 0 .. 2: how many HOUSES");
        OneWayTown x = new OneWayTown();
        Check.due("no houses", x.image(0), 0);
        x.grown(14, 0);
        Check.due("fourteen houses", x.image(2), 14);
        x.years(3);
        int seed = x.about(10);
        Check.due("another seed", x.image(1), 14);
        Check.due("no act", x.about(4), 2);
        x.grown(2, 0);
        Check.due("box 2", x.back(2), 14);
        Check.due("its seed", x.about(10), 0);
        Check.due("box 1", x.back(1), 14);
        Check.due("its seed", x.about(10), seed);
        Check.due("box 0", x.back(0), 0);
        Check.due("its seed", x.about(10), 0);
        Check.due("over another one", x.image(2), 0);
        Check.due("the box has no houses now", x.back(2), 0);
        // Acts behind it leave what is kept.
        x = row(3);
        x.image(0);
        x.live(0, 99);
        x.move(2, 0);
        x.grow(0, 1, 1);
        x.back(0);
        Check.due("as it was kept", Edge.town(x).equals(Edge.town(row(3))), true);
        // Acts that can be undone and done again stay.
        OneWayTown y = Edge.busy();
        y.image(1);
        Check.due("to undo", y.about(4), 3);
        Check.due("to do again", y.about(5), 2);
        Check.due("redo", y.redo(), true);
    }

    private static void imageRefused() {
        Check.says("Promise 42", "NONE if there is none such.");
        for (int box : Edge.outside(0, 2)) {
            Check.due("image(" + box + ")", new OneWayTown().image(box), -1);
        }
        int[] boxes = {-1, 3, Integer.MIN_VALUE, Integer.MAX_VALUE};
        for (int box : boxes) {
            Edge.refused("image(" + box + ")", Edge::busy, x -> x.image(box), -1);
            Edge.refused("image(" + box + ")", OneWayTown::new, x -> x.image(box), -1);
        }
    }

    private static void backGoes() {
        Check.says("Promise 43", "All is as it was kept (no ACTS are kept then): how many HOUSES");
        OneWayTown x = Edge.busy();
        Check.due("back(0)", x.back(0), 6);
        Check.due("the seed", x.about(10), 17);
        Check.due("nothing to undo", x.about(4), 0);
        Check.due("nothing to do again", x.about(5), 0);
        Check.due("undo", x.undo(), false);
        Check.due("redo", x.redo(), false);
        Check.due("as it was kept", x.about(0), 6);
        Check.due("far", x.far(0), 108);
        Check.due("people", x.house(0, 2), 3);
        Check.due("carts stay", x.about(3), 2);
        x.live(0, 50);
        Check.due("an act behind it", x.about(4), 1);
        Check.due("undone", x.undo(), true);
        Check.due("to what was kept", x.house(0, 2), 3);
        Check.due("not further", x.undo(), false);
        x.live(0, 51);
        Check.due("again", x.back(0), 6);
        Check.due("the box is not used up", x.house(0, 2), 3);
        Check.due("no act is kept", x.undo(), false);
        Check.due("to the other box", x.back(2), Edge.busy().about(0) + 1);
        Check.due("and back", x.back(0), 6);
        // A full row of acts goes too.
        x = row(3);
        x.image(1);
        for (int i = 0; i < 60; i++) {
            x.live(0, i);
        }
        for (int i = 0; i < 7; i++) {
            x.undo();
        }
        Check.due("back(1)", x.back(1), 3);
        Check.due("nothing to undo", x.about(4), 0);
        Check.due("nothing to do again", x.about(5), 0);
        for (int i = 1; i <= 41; i++) {
            x.live(0, i);
        }
        Check.due("forty again", x.about(4), 40);
        for (int i = 0; i < 40; i++) {
            x.undo();
        }
        Check.due("the oldest of them", x.house(0, 2), 1);
        Check.due("no more", x.undo(), false);
    }

    private static void backRefused() {
        Check.says("Promise 43", "NONE, doing nothing, if nothing was.");
        for (int box : Edge.outside(0, 2)) {
            Check.due("back(" + box + ")", Edge.busy().back(box), -1);
        }
        for (int box = 0; box < 3; box++) {
            int empty = box;
            Edge.refused("back(" + box + ") of a new object", OneWayTown::new, x -> x.back(empty), -1);
        }
        int[] boxes = {-1, 1, 3, Integer.MIN_VALUE, Integer.MAX_VALUE};
        for (int box : boxes) {
            Edge.refused("back(" + box + ")", Edge::busy, x -> x.back(box), -1);
        }
    }
}
