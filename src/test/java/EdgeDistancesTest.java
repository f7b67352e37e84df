import java.util.function.Supplier;

/** The boundary cases of distances: part 5 of the terms, promises 37 to 41. */
public final class EdgeDistancesTest {
    public static void main(String[] args) {
        toldAndUntold();
        betweenDoors();
        knownAt();
        wholeOnes();
        waysOfATown();
        wrongOnes();
        mendedOnes();
        distanceAnswers();
        distanceRefused();
        untellTrue();
        untellFalse();
        laterAnswers();
        laterRefused();
        wrongAnswers();
        wrongNotWhole();
        wrongRefused();
        mendedAnswers();
        mendedNone();
        mendedNotWhole();
        mendedRefused();
        Check.finish("EdgeDistancesTest");
    }

    /** Distances of n doors: 0 1, 0 2, .., 1 2, .. */
    private static OneWayTown told(int... upper) {
        OneWayTown x = new OneWayTown();
        int n = 2;
        while (n * (n - 1) / 2 < upper.length) {
            n++;
        }
        int i = 0;
        for (int a = 0; a < n; a++) {
            for (int b = a + 1; b < n; b++) {
                x.distance(a, b, upper[i]);
                i++;
            }
        }
        return x;
    }

    private static OneWayTown alike(int n, int so) {
        OneWayTown x = new OneWayTown();
        for (int a = 0; a < n; a++) {
            for (int b = a + 1; b < n; b++) {
                x.distance(a, b, so);
            }
        }
        return x;
    }

    private static void toldAndUntold() {
        Check.says("Terms 5", "DISTANCES, 40 at most, are TOLD at a TIME (0 at first, goes on), UNTOLD at a later one or the same");
        OneWayTown x = new OneWayTown();
        Check.due("0 at first", x.about(7), 0);
        Check.due("told at 0", x.distance(0, 1, 5), 0);
        Check.due("known at 0", x.wrong(2, 0), 0);
        Check.due("not ahead of it", x.wrong(2, -1), -2);
        Check.due("untold at the same", x.untell(0), true);
        Check.due("not known any more", x.wrong(2, 0), -2);
        Check.due("at no time", x.wrong(2, Integer.MAX_VALUE), -2);
        x.later(7);
        x.distance(0, 1, 6);
        x.later(1);
        Check.due("untold at a later one", x.untell(1), true);
        Check.due("known till then", x.wrong(2, 7), 0);
        Check.due("not from then on", x.wrong(2, 8), -2);
        for (int i = 2; i < 40; i++) {
            Check.due("distance " + i, x.distance(i % 5, 5, 1 + i), i);
        }
        Check.due("the forty-first", x.distance(0, 1, 5), -1);
        x.later(1000);
        Check.due("later too", x.distance(0, 1, 5), -1);
        Check.due("forty", x.about(6), 40);
        Check.due("untold ones make no room", x.untell(39), true);
        Check.due("the forty-first", x.distance(0, 1, 5), -1);
    }

    private static void betweenDoors() {
        Check.says("Terms 5", "between two unlike DOORS (0 .. 5) so much (1 .. 999).");
        for (int a = 0; a < 6; a++) {
            for (int b = 0; b < 6; b++) {
                Check.due("doors " + a + " and " + b, new OneWayTown().distance(a, b, 1), a == b ? -1 : 0);
                Check.due("doors " + a + " and " + b, new OneWayTown().distance(a, b, 999), a == b ? -1 : 0);
            }
        }
        Check.due("0", new OneWayTown().distance(0, 5, 0), -1);
        Check.due("1,000", new OneWayTown().distance(0, 5, 1000), -1);
        // So much is told: 1 and 999 are seen by what goes with them.
        OneWayTown x = told(1, 998, 999);
        Check.due("999 is 1 and 998", x.wrong(3, 0), 0);
        Check.due("998 is not 1 and 996", told(1, 996, 998).wrong(3, 0), 7);
    }

    private static void knownAt() {
        Check.says("Terms 5", "As known at k those count that were TOLD at k or before, not UNTOLD at k or before; "
                + "of two of the same DOORS the later one.");
        OneWayTown x = new OneWayTown();
        x.later(10);
        x.distance(0, 1, 5);
        x.distance(0, 2, 5);
        x.distance(1, 2, 10);
        int[] before = {Integer.MIN_VALUE, -1, 0, 9};
        for (int k : before) {
            Check.due("not known at " + k, x.wrong(3, k), -2);
        }
        int[] from = {10, 11, 100000, 100001, Integer.MAX_VALUE};
        for (int k : from) {
            Check.due("known at " + k, x.wrong(3, k), 0);
        }
        // A later one of the same doors, told the other way round.
        x.later(10);
        x.distance(2, 1, 11);
        Check.due("at 19 the first", x.wrong(3, 19), 0);
        Check.due("at 20 the later", x.wrong(3, 20), 7);
        // Of the same time: the one told later.
        x.distance(1, 2, 9);
        Check.due("of the same time", x.wrong(3, 20), 0);
        x.distance(1, 2, 12);
        Check.due("of the same time", x.wrong(3, 20), 7);
        // The later one untold: those ahead count again.
        x.later(10);
        x.untell(5);
        Check.due("at 29 it counts", x.wrong(3, 29), 7);
        Check.due("at 30 the one ahead does", x.wrong(3, 30), 0);
        x.untell(4);
        Check.due("at 30 the one ahead of that", x.wrong(3, 30), 7);
        x.later(1);
        x.untell(3);
        Check.due("at 31 the first", x.wrong(3, 31), 0);
        Check.due("at 30 not yet", x.wrong(3, 30), 7);
        x.untell(2);
        Check.due("none at 31", x.wrong(3, 31), -2);
        Check.due("the first at 10", x.wrong(3, 10), 0);
        // One ahead untold while a later one counts changes nothing.
        x = told(5, 5, 10);
        x.distance(1, 2, 9);
        x.untell(2);
        Check.due("the later one stays", x.wrong(3, 0), 0);
        // Other doors are of no matter.
        x.distance(0, 3, 999);
        Check.due("other doors", x.wrong(3, 0), 0);
    }

    private static void wholeOnes() {
        Check.says("Terms 5", "For n DOORS (2 .. 6: 0 .. n - 1): WHOLE, if all are known.");
        for (int n = 2; n <= 6; n++) {
            int pairs = n * (n - 1) / 2;
            OneWayTown x = alike(n, 7);
            for (int m = 2; m <= 6; m++) {
                Check.due(m + " of " + n + " doors", x.wrong(m, 0), m <= n ? 0 : -2);
            }
            // One of them missing, whichever it is; those of other doors don't help.
            for (int missing = 0; missing < pairs; missing++) {
                OneWayTown y = alike(n, 7);
                y.untell(missing);
                Check.due("distance " + missing + " of " + n + " doors missing", y.wrong(n, 0), -2);
                Check.due("distance " + missing + " of " + n + " doors missing", y.mended(n, 0, 0), -2);
            }
        }
        OneWayTown x = new OneWayTown();
        x.distance(4, 5, 1);
        Check.due("doors 4 and 5 are not 0 and 1", x.wrong(2, 0), -2);
    }

    private static void waysOfATown() {
        Check.says("Terms 5", "WHOLE ones can be WAYS of a town (streets of any length), if no DISTANCE is above two by a third DOOR "
                + "together, and of any four DOORS (a b, c d; a c, b d; a d, b c) of the three sums the two greatest are alike.");
        Check.due("two doors always", told(999).wrong(2, 0), 0);
        Check.due("two doors always", told(1).wrong(2, 0), 0);
        // Each of three may be the greatest: as great as the others together, and 1 more.
        Check.due("0 1 as the others", told(9, 4, 5).wrong(3, 0), 0);
        Check.due("0 1 above them", told(10, 4, 5).wrong(3, 0), 7);
        Check.due("0 2 as the others", told(4, 9, 5).wrong(3, 0), 0);
        Check.due("0 2 above them", told(4, 10, 5).wrong(3, 0), 7);
        Check.due("1 2 as the others", told(4, 5, 9).wrong(3, 0), 0);
        Check.due("1 2 above them", told(4, 5, 10).wrong(3, 0), 7);
        Check.due("half streets", told(1, 1, 1).wrong(3, 0), 0);
        Check.due("the greatest of all", told(999, 999, 999).wrong(3, 0), 0);
        // Four: 0 1, 0 2, 0 3, 1 2, 1 3, 2 3. The two greatest sums alike, the third less, or alike.
        Check.due("all alike", told(2, 2, 2, 2, 2, 2).wrong(4, 0), 0);
        Check.due("a b, c d is the least", told(2, 3, 3, 3, 3, 2).wrong(4, 0), 0);
        Check.due("a c, b d is the least", told(3, 2, 3, 3, 2, 3).wrong(4, 0), 0);
        Check.due("a d, b c is the least", told(3, 3, 2, 2, 3, 3).wrong(4, 0), 0);
        Check.due("a b, c d is the greatest", told(3, 2, 2, 2, 2, 3).wrong(4, 0), 15);
        Check.due("a c, b d is the greatest", told(2, 3, 2, 2, 3, 2).wrong(4, 0), 15);
        Check.due("a d, b c is the greatest", told(2, 2, 3, 3, 2, 2).wrong(4, 0), 15);
        Check.due("all unlike", told(4, 5, 6, 5, 5, 4).wrong(4, 0), 15);
        Check.due("1 off", told(2, 3, 3, 3, 4, 2).wrong(4, 0), 15);
    }

    private static void wrongOnes() {
        Check.says("Terms 5", "WRONG: three DOORS that can't be so (as bits, the least number); if there are none such, four likewise.");
        // Each three of six doors alone made wrong is not to be had; each pair of six gives the least three with both.
        for (int a = 0; a < 6; a++) {
            for (int b = a + 1; b < 6; b++) {
                OneWayTown x = alike(6, 10);
                x.distance(a, b, 21);
                int third = a > 0 ? 0 : b > 1 ? 1 : 2;
                Check.due("pair " + a + " " + b + " too far", x.wrong(6, 0), 1 << a | 1 << b | 1 << third);
                OneWayTown y = alike(6, 10);
                y.distance(a, b, 11);
                int mask = 1 << a | 1 << b;
                for (int door = 0; Integer.bitCount(mask) < 4; door++) {
                    mask |= 1 << door;
                }
                Check.due("pair " + a + " " + b + " a little too far", y.wrong(6, 0), mask);
                OneWayTown z = alike(6, 10);
                z.distance(a, b, 20);
                Check.due("pair " + a + " " + b + ", no three is wrong", z.wrong(6, 0), mask);
            }
        }
        // A four of lesser number is behind any three.
        OneWayTown x = alike(6, 10);
        x.distance(0, 1, 11);
        x.distance(4, 5, 21);
        Check.due("threes are ahead of fours", x.wrong(6, 0), 1 | 16 | 32);
        Check.due("without door 5 the four", x.wrong(5, 0), 15);
    }

    private static void mendedOnes() {
        Check.says("Terms 5", "MENDED: the first two DOORS (a less than b; a counts most) of which another DISTANCE alone (1 .. 999) "
                + "would make them WAYS of a town: that which is least off; of like ones the less.");
        mended("too far: as far as it may be", told(10, 4, 5), 3, 1, 9);
        mended("too near: as near as it may be", told(4, 10, 5), 3, 1, 5);
        mended("too near: as near as it may be", told(1, 999, 1), 3, 1, 998);
        // A distance that would have to be 0 or 1,000 can't be: another pair, or none.
        mended("four like ones", told(3, 2, 2, 2, 2, 2), 4, 1, 2);
        mended("the last pair of four", told(5, 5, 5, 5, 5, 11), 4, 23, 5);
        mended("998 and 1 are 999", told(1, 999, 500), 3, 1, 499);
        mended("none of four", told(1, 1, 1, 3, 3, 3), 4, -1, -1);
        mended("0 would do, and can't be: the next pair", told(3, 5, 5, 5, 5, 10), 4, 2, 8);
        mended("1 does", told(3, 6, 5, 6, 5, 10), 4, 1, 1);
        mended("the nearest from below", told(1, 9, 9, 5, 5, 4), 4, 1, 4);
        mended("the nearest from above", told(30, 9, 9, 5, 5, 4), 4, 1, 10);
        // Each pair of six alike but one: that one is mended, to what it was.
        for (int a = 0; a < 6; a++) {
            for (int b = a + 1; b < 6; b++) {
                OneWayTown x = alike(6, 10);
                x.distance(a, b, 999);
                mended("pair " + a + " " + b, x, 6, 10 * a + b, 10);
                OneWayTown y = alike(6, 999);
                y.distance(a, b, 1 + (a + b) % 2);
                Check.due("pair " + a + " " + b + " nearer than the rest is right", y.wrong(6, 0), 0);
            }
        }
        mended("the first pair of like ones", told(3, 1, 1), 3, 1, 2);
        // 1,000 would be needed: 0 1 can't be mended so, another pair is.
        mended("1,000 is too far", told(1, 999, 999, 999, 1, 1), 4, 13, 999);
    }

    private static void mended(String when, OneWayTown x, int n, int pair, int so) {
        Check.due(when + ": mended(" + n + ", 0, 0)", x.mended(n, 0, 0), pair);
        Check.due(when + ": mended(" + n + ", 1, 0)", x.mended(n, 1, 0), so);
    }

    private static void distanceAnswers() {
        Check.says("Promise 37", "A DISTANCE: its number");
        OneWayTown x = new OneWayTown();
        for (int i = 0; i < 40; i++) {
            Check.due("distance " + i, x.distance(i % 2 == 0 ? 0 : 5, i % 2 == 0 ? 5 : 0, i % 2 == 0 ? 1 : 999), i);
            Check.due("so many", x.about(6), i + 1);
        }
        Check.due("no act", x.about(4), 0);
        Check.due("nothing is laid there", x.about(9), 0);
    }

    private static void distanceRefused() {
        Check.says("Promise 37", "NONE, doing nothing, if one can't be, or there are 40.");
        for (int door : Edge.outside(0, 5)) {
            Check.due("distance(" + door + ", 0, 5)", new OneWayTown().distance(door, 0, 5), -1);
            Check.due("distance(0, " + door + ", 5)", new OneWayTown().distance(0, door, 5), -1);
            Check.due("distance(" + door + ", " + door + ", 5)", new OneWayTown().distance(door, door, 5), -1);
        }
        for (int so : Edge.outside(1, 999)) {
            Check.due("distance(0, 1, " + so + ")", new OneWayTown().distance(0, 1, so), -1);
        }
        int[][] refused = {{0, 0, 5}, {5, 5, 5}, {-1, 0, 5}, {0, -1, 5}, {6, 0, 5}, {0, 6, 5}, {0, 1, 0}, {0, 1, 1000},
            {0, 1, -1}, {Integer.MIN_VALUE, Integer.MAX_VALUE, Integer.MIN_VALUE}};
        for (int[] d : refused) {
            Edge.refused("distance(" + d[0] + ", " + d[1] + ", " + d[2] + ")", Edge::busy, x -> x.distance(d[0], d[1], d[2]), -1);
        }
        Supplier<OneWayTown> full = () -> {
            OneWayTown x = Edge.busy();
            for (int i = 4; i < 40; i++) {
                x.distance(i % 3, (i + 1) % 3, i);
            }
            return x;
        };
        Check.due("forty", full.get().about(6), 40);
        Edge.refused("the forty-first", full, x -> x.distance(0, 1, 5), -1);
        OneWayTown x = full.get();
        x.end(0);
        x.town();
        Check.due("behind town() there is room", x.distance(0, 1, 5), 0);
    }

    private static void untellTrue() {
        Check.says("Promise 38", "It is UNTOLD: true");
        OneWayTown x = alike(6, 5);
        for (int i = 14; i >= 0; i--) {
            Check.due("untell(" + i + ")", x.untell(i), true);
            Check.due("it has its number still", x.about(6), 15);
        }
        OneWayTown full = new OneWayTown();
        for (int i = 0; i < 40; i++) {
            full.distance(0, 1, 5);
        }
        for (int i = 0; i < 39; i++) {
            full.untell(i);
            Check.due("one is left at least", full.wrong(2, 0), 0);
        }
        Check.due("untell(39)", full.untell(39), true);
        Check.due("none is left", full.wrong(2, 0), -2);
    }

    private static void untellFalse() {
        Check.says("Promise 38", "false if it is so already, or there is none such.");
        for (int number : Edge.outside(0, 3)) {
            Check.due("untell(" + number + ") of four", Edge.busy().untell(number), false);
        }
        for (int number : Edge.FAR_OFF) {
            Check.due("untell(" + number + ") of none", new OneWayTown().untell(number), false);
        }
        Check.due("untell(0) of none", new OneWayTown().untell(0), false);
        int[] refused = {-1, 3, 4, 39, 40, Integer.MIN_VALUE, Integer.MAX_VALUE};
        for (int number : refused) {
            Edge.refused("untell(" + number + ")", Edge::busy, x -> Edge.truth(x.untell(number)), 0);
        }
        // Untold once, at its first time: a later call does not make it later.
        OneWayTown x = told(5);
        x.later(5);
        x.untell(0);
        x.later(5);
        Check.due("already", x.untell(0), false);
        Check.due("known at 4", x.wrong(2, 4), 0);
        Check.due("not known at 5", x.wrong(2, 5), -2);
        // Untold at 0, the time's first.
        x = told(5);
        x.untell(0);
        Check.due("already, at 0", x.untell(0), false);
        OneWayTown y = new OneWayTown();
        for (int i = 0; i < 40; i++) {
            y.distance(0, 1, 5);
        }
        Check.due("untell(40) of forty", y.untell(40), false);
        y.town();
        Check.due("untell(39) behind town()", y.untell(39), false);
        y.distance(0, 1, 5);
        Check.due("untold again is what is told anew", y.untell(0), true);
    }

    private static void laterAnswers() {
        Check.says("Promise 39", "So much later (0 .. 1000): the TIME");
        OneWayTown x = new OneWayTown();
        Check.due("later(0)", x.later(0), 0);
        Check.due("later(1)", x.later(1), 1);
        Check.due("later(1000)", x.later(1000), 1001);
        Check.due("the time", x.about(7), 1001);
        Check.due("later(0)", x.later(0), 1001);
    }

    private static OneWayTown atTime(int time) {
        OneWayTown x = Check.told("house a;");
        for (int i = 0; i < time / 1000; i++) {
            x.later(1000);
        }
        x.later(time % 1000);
        return x;
    }

    private static void laterRefused() {
        Check.says("Promise 39", "NONE, doing nothing, for another number, or if it would be above 100,000.");
        for (int by : Edge.outside(0, 1000)) {
            Check.due("later(" + by + ")", new OneWayTown().later(by), -1);
            Check.due("later(" + by + ") at 99,000", atTime(99000).later(by), -1);
        }
        int[] refused = {-1, 1001, Integer.MIN_VALUE, Integer.MAX_VALUE, -1000};
        for (int by : refused) {
            Edge.refused("later(" + by + ")", Edge::busy, x -> x.later(by), -1);
        }
        Check.due("just 100,000", atTime(99000).later(1000), 100000);
        Check.due("just 100,000", atTime(99999).later(1), 100000);
        Check.due("above it", atTime(99001).later(1000), -1);
        Check.due("above it", atTime(99999).later(2), -1);
        OneWayTown x = atTime(100000);
        Check.due("the last time", x.about(7), 100000);
        Check.due("later(1)", x.later(1), -1);
        Check.due("later(1000)", x.later(1000), -1);
        Check.due("later(0)", x.later(0), 100000);
        Check.due("the time stays", x.about(7), 100000);
        Check.due("told at the last time", x.distance(0, 1, 5), 0);
        Check.due("known then", x.wrong(2, 100000), 0);
        Check.due("not ahead of it", x.wrong(2, 99999), -2);
        Check.due("untold at the last time", x.untell(0), true);
        Check.due("not known", x.wrong(2, 100000), -2);
        OneWayTown y = atTime(99001);
        y.later(1000);
        Check.due("a refused one does nothing", y.about(7), 99001);
        Check.due("a lesser one can be", y.later(999), 100000);
        y.town();
        Check.due("the time stays behind town()", y.about(7), 100000);
    }

    private static void wrongAnswers() {
        Check.says("Promise 40", "n DOORS: 0 if they are WAYS of a town, WRONG ones as bits if not");
        for (int n = 2; n <= 6; n++) {
            Check.due(n + " like ones", alike(n, 999).wrong(n, 0), 0);
            Check.due(n + " like ones", alike(n, 1).wrong(n, 0), 0);
        }
        OneWayTown x = alike(6, 10);
        x.distance(4, 5, 999);
        Check.due("doors 0, 4, 5", x.wrong(6, 0), 49);
        Check.due("without door 5", x.wrong(5, 0), 0);
    }

    private static void wrongNotWhole() {
        Check.says("Promise 40", "-2 if they are not WHOLE");
        for (int n = 2; n <= 6; n++) {
            Check.due("none told", new OneWayTown().wrong(n, 0), -2);
            Check.due("at the least time", alike(n, 5).wrong(n, Integer.MIN_VALUE), -2);
            Check.due("at -1", alike(n, 5).wrong(n, -1), -2);
        }
        // Not whole, though three of them are wrong.
        OneWayTown x = told(1, 1, 9);
        Check.due("three wrong, four not whole", x.wrong(4, 0), -2);
        Check.due("the three", x.wrong(3, 0), 7);
    }

    private static void wrongRefused() {
        Check.says("Promise 40", "NONE if n can't be.");
        for (int n : Edge.outside(2, 6)) {
            Check.due("wrong(" + n + ", 0)", alike(6, 5).wrong(n, 0), -1);
            Check.due("wrong(" + n + ", 0) of none", new OneWayTown().wrong(n, 0), -1);
            Check.due("wrong(" + n + ", min)", alike(6, 5).wrong(n, Integer.MIN_VALUE), -1);
        }
        Edge.refused("wrong(7, 0)", Edge::busy, x -> x.wrong(7, 0), -1);
        Edge.refused("wrong(1, 0)", Edge::busy, x -> x.wrong(1, 0), -1);
    }

    private static void mendedAnswers() {
        Check.says("Promise 41", "MENDED what 0: 10 * a and b, 1: the DISTANCE");
        mended("0 and 1", told(10, 4, 5), 3, 1, 9);
        OneWayTown x = alike(6, 10);
        x.distance(5, 4, 11);
        mended("4 and 5", x, 6, 45, 10);
        Check.due("nothing is mended in earnest", x.wrong(6, 0), 1 | 2 | 16 | 32);
    }

    private static void mendedNone() {
        Check.says("Promise 41", "0 if they are WAYS of a town, NONE if none does");
        for (int n = 2; n <= 6; n++) {
            mended(n + " like ones", alike(n, 999), n, 0, 0);
        }
        mended("two doors", told(1), 2, 0, 0);
        mended("none does", told(1, 1, 1, 3, 3, 3), 4, -1, -1);
    }

    private static void mendedNotWhole() {
        Check.says("Promise 41", "-2 if they are not WHOLE");
        for (int what = 0; what < 2; what++) {
            for (int n = 2; n <= 6; n++) {
                Check.due("none told", new OneWayTown().mended(n, what, 0), -2);
                Check.due("ahead of the first time", alike(n, 5).mended(n, what, -1), -2);
            }
            Check.due("three wrong, four not whole", told(1, 1, 9).mended(4, what, 0), -2);
        }
    }

    private static void mendedRefused() {
        Check.says("Promise 41", "-3 if one can't be.");
        for (int n : Edge.outside(2, 6)) {
            Check.due("mended(" + n + ", 0, 0)", alike(6, 5).mended(n, 0, 0), -3);
            Check.due("mended(" + n + ", 1, 0) of none", new OneWayTown().mended(n, 1, 0), -3);
        }
        for (int what : Edge.outside(0, 1)) {
            Check.due("mended(6, " + what + ", 0)", alike(6, 5).mended(6, what, 0), -3);
            Check.due("mended(2, " + what + ", 0) of none", new OneWayTown().mended(2, what, 0), -3);
            Check.due("mended(3, " + what + ", 0) of wrong ones", told(10, 4, 5).mended(3, what, 0), -3);
        }
        Edge.refused("mended(7, 0, 0)", Edge::busy, x -> x.mended(7, 0, 0), -3);
        Edge.refused("mended(3, 2, 0)", Edge::busy, x -> x.mended(3, 2, 0), -3);
    }
}
