import java.util.Arrays;
import java.util.Random;

/** Promises 37 to 41: distances told and untold, later, wrong, mended. */
public final class DistancesTest {
    public static void main(String[] args) {
        telling();
        untelling();
        time();
        known();
        wrongOnes();
        mending();
        againstModel();
        Check.finish("DistancesTest");
    }

    private static void telling() {
        OneWayTown x = new OneWayTown();
        int[][] bad = {{0, 0, 5}, {-1, 0, 5}, {0, -1, 5}, {6, 0, 5}, {0, 6, 5}, {0, 1, 0}, {0, 1, 1000}, {0, 1, -5},
            {Integer.MAX_VALUE, Integer.MIN_VALUE, 1}};
        for (int[] d : bad) {
            Check.due("a distance that can't be", x.distance(d[0], d[1], d[2]), -1);
        }
        Check.due("none told", x.about(6), 0);
        for (int i = 0; i < 40; i++) {
            Check.due("distance " + i, x.distance(5, i % 5, i % 2 == 0 ? 1 : 999), i);
        }
        Check.due("the forty-first", x.distance(0, 1, 5), -1);
        Check.due("forty told", x.about(6), 40);
        x.untell(3);
        Check.due("untold ones count", x.about(6), 40);
        Check.due("no room all the same", x.distance(0, 1, 5), -1);
        Check.due("untell(39)", x.untell(39), true);
        Check.due("untell(40)", x.untell(40), false);
        Check.due("another town", x.town(), 0);
        Check.due("untell(5) of none", x.untell(5), false);
        Check.due("untell(0) of none", x.untell(0), false);
        Check.due("the first again", x.distance(0, 1, 5), 0);
        Check.due("untell(1) of one", x.untell(1), false);
    }

    private static void untelling() {
        OneWayTown x = new OneWayTown();
        Check.due("untell(0) of none", x.untell(0), false);
        x.distance(0, 1, 5);
        Check.due("untell(-1)", x.untell(-1), false);
        Check.due("untell(1)", x.untell(1), false);
        Check.due("untell(max)", x.untell(Integer.MAX_VALUE), false);
        Check.due("untell(0)", x.untell(0), true);
        Check.due("untell(0) again", x.untell(0), false);
        x.later(5);
        Check.due("untell(0) later", x.untell(0), false);
        Check.due("it has its number", x.distance(0, 1, 5), 1);
        Check.due("no act", x.about(4), 0);
    }

    private static void time() {
        OneWayTown x = new OneWayTown();
        Check.due("later(0)", x.later(0), 0);
        Check.due("later(-1)", x.later(-1), -1);
        Check.due("later(1001)", x.later(1001), -1);
        Check.due("later(max)", x.later(Integer.MAX_VALUE), -1);
        Check.due("later(min)", x.later(Integer.MIN_VALUE), -1);
        Check.due("time", x.about(7), 0);
        Check.due("later(999)", x.later(999), 999);
        for (int i = 1; i < 100; i++) {
            Check.due("later(1000)", x.later(1000), 999 + 1000 * i);
        }
        Check.due("above 100,000", x.later(2), -1);
        Check.due("time", x.about(7), 99999);
        Check.due("100,000", x.later(1), 100000);
        Check.due("above 100,000", x.later(1), -1);
        Check.due("above 100,000", x.later(1000), -1);
        Check.due("later(0)", x.later(0), 100000);
        Check.due("told at the last time", x.distance(0, 1, 9), 0);
        Check.due("known then", x.wrong(2, 100000), 0);
        Check.due("not ahead", x.wrong(2, 99999), -2);
    }

    private static void known() {
        OneWayTown x = new OneWayTown();
        Check.due("wrong(1)", x.wrong(1, 0), -1);
        Check.due("wrong(7)", x.wrong(7, 0), -1);
        Check.due("wrong(-1)", x.wrong(-1, 0), -1);
        Check.due("wrong(max)", x.wrong(Integer.MAX_VALUE, 0), -1);
        Check.due("wrong(2)", x.wrong(2, 0), -2);
        Check.due("wrong(6)", x.wrong(6, 0), -2);
        x.later(10);
        x.distance(1, 0, 5);
        Check.due("known at 9", x.wrong(2, 9), -2);
        Check.due("known at 10", x.wrong(2, 10), 0);
        Check.due("known at 11", x.wrong(2, 11), 0);
        Check.due("known at max", x.wrong(2, Integer.MAX_VALUE), 0);
        Check.due("known at min", x.wrong(2, Integer.MIN_VALUE), -2);
        Check.due("known at -1", x.wrong(2, -1), -2);
        x.distance(0, 2, 5);
        x.distance(1, 2, 10);
        Check.due("three", x.wrong(3, 10), 0);
        x.later(10);
        x.distance(2, 1, 11);
        Check.due("as known at 19", x.wrong(3, 19), 0);
        Check.due("the later one counts at 20", x.wrong(3, 20), 7);
        x.distance(1, 2, 9);
        Check.due("the later one of the same time", x.wrong(3, 20), 0);
        x.later(10);
        Check.due("untell 4", x.untell(4), true);
        Check.due("the one ahead counts again at 30", x.wrong(3, 30), 7);
        Check.due("but not at 29", x.wrong(3, 29), 0);
        x.untell(3);
        Check.due("and the first one", x.wrong(3, 30), 0);
        x.later(1);
        x.untell(2);
        Check.due("none is left at 31", x.wrong(3, 31), -2);
        Check.due("at 30 it is", x.wrong(3, 30), 0);
        Check.due("two doors are whole still", x.wrong(2, 31), 0);
        // Untold at the time at which it was told: known at no time.
        x.distance(1, 2, 3);
        x.untell(5);
        Check.due("never known", x.wrong(3, 31), -2);
        Check.due("never known", x.wrong(3, 99), -2);
        Check.tape(x, "");
        Check.due("another town", x.town(), 0);
        Check.due("none told any more", x.wrong(2, 31), -2);
        Check.due("the time stays", x.about(7), 31);
    }

    private static OneWayTown told(int... upper) {
        OneWayTown x = new OneWayTown();
        int n = 2;
        while (n * (n - 1) / 2 < upper.length) {
            n++;
        }
        int i = 0;
        for (int a = 0; a < n; a++) {
            for (int b = a + 1; b < n; b++) {
                x.distance(a, b, upper[i++]);
            }
        }
        return x;
    }

    private static void wrongOnes() {
        OneWayTown x = told(1, 1, 1, 3, 3, 3);
        // 0 1, 0 2, 0 3 are 1; 1 2, 1 3, 2 3 are 3: all threes with 0 are wrong.
        Check.due("the least number", x.wrong(4, 0), 7);
        Check.due("three doors", x.wrong(3, 0), 7);
        x = told(5, 5, 5, 5, 5, 20);
        Check.due("doors 0 2 3", x.wrong(4, 0), 13);
        Check.due("three doors", x.wrong(3, 0), 0);
        // Six doors: threes come ahead of fours even by greater numbers.
        x = told(2, 2, 3, 9, 9, 2, 3, 9, 9, 4, 9, 9, 9, 9, 19);
        Check.due("three ahead of four", x.wrong(6, 0), 1 | 16 | 32);
        Check.due("five doors", x.wrong(5, 0), 15);
        Check.due("four doors", x.wrong(4, 0), 15);
        Check.due("two doors", x.wrong(2, 0), 0);
        x = told(1);
        x.distance(0, 2, 999);
        Check.due("not whole", x.wrong(3, 0), -2);
    }

    private static void mending() {
        OneWayTown x = told(3, 2, 2, 2, 2, 2);
        Check.due("mended, what 0", x.mended(4, 0, 0), 1);
        Check.due("mended, what 1", x.mended(4, 1, 0), 2);
        Check.due("mended, what 2", x.mended(4, 2, 0), -3);
        Check.due("mended, what -1", x.mended(4, -1, 0), -3);
        Check.due("mended, n 1", x.mended(1, 0, 0), -3);
        Check.due("mended, n 7", x.mended(7, 0, 0), -3);
        Check.due("mended, n max", x.mended(Integer.MAX_VALUE, 0, 0), -3);
        Check.due("mended of ways", x.mended(3, 0, 0), 0);
        Check.due("mended of ways", x.mended(3, 1, 0), 0);
        Check.due("mended, not whole", x.mended(5, 0, 0), -2);
        Check.due("mended, not whole", x.mended(5, 1, 0), -2);
        Check.due("mended, not known", x.mended(4, 0, -1), -2);
        Check.due("mended changes nothing", x.wrong(4, 0), 15);
        x = told(20, 3, 4);
        Check.due("the first pair", x.mended(3, 0, 0), 1);
        Check.due("least off, from above", x.mended(3, 1, 0), 7);
        x = told(3, 20, 4);
        Check.due("the first pair", x.mended(3, 0, 0), 1);
        Check.due("least off, from below", x.mended(3, 1, 0), 16);
        x = told(1, 999, 999, 999, 1, 1);
        Check.due("doors 1 3", x.mended(4, 0, 0), 13);
        Check.due("the greatest distance", x.mended(4, 1, 0), 999);
        x = told(1, 1, 1, 3, 3, 3);
        Check.due("none does", x.mended(4, 0, 0), -1);
        Check.due("none does", x.mended(4, 1, 0), -1);
    }

    private static final Random RANDOM = new Random(41);

    private static void againstModel() {
        for (int run = 0; run < 1500; run++) {
            int n = 2 + RANDOM.nextInt(5);
            int[][] w = run % 3 == 0 ? randomWays(n) : townWays(n);
            for (int spoil = run % 4; spoil > 1; spoil--) {
                int a = RANDOM.nextInt(n);
                int b = RANDOM.nextInt(n);
                if (a != b) {
                    int so = 1 + RANDOM.nextInt(RANDOM.nextBoolean() ? 999 : 20);
                    w[a][b] = so;
                    w[b][a] = so;
                }
            }
            OneWayTown x = new OneWayTown();
            for (int a = 0; a < n; a++) {
                for (int b = 0; b < a; b++) {
                    x.distance(a, b, w[a][b]);
                }
            }
            int[] want = mended(w, n);
            String town = Arrays.deepToString(w);
            Check.due("wrong of " + town, x.wrong(n, 0), wrong(w, n));
            Check.due("mended(0) of " + town, x.mended(n, 0, 0), want[0]);
            Check.due("mended(1) of " + town, x.mended(n, 1, 0), want[1]);
        }
    }

    private static int[][] randomWays(int n) {
        int[][] w = new int[n][n];
        int most = RANDOM.nextBoolean() ? 3 : 999;
        for (int a = 0; a < n; a++) {
            for (int b = 0; b < a; b++) {
                w[a][b] = 1 + RANDOM.nextInt(most);
                w[b][a] = w[a][b];
            }
        }
        return w;
    }

    private static int[][] townWays(int n) {
        Model model = OracleTest.randomTown(n + RANDOM.nextInt(4), 1 + RANDOM.nextInt(2));
        return model.ways();
    }

    private static int wrong(int[][] w, int n) {
        for (int size = 3; size <= 4; size++) {
            for (int mask = 0; mask < 1 << n; mask++) {
                if (Integer.bitCount(mask) == size && !isRight(w, mask)) {
                    return mask;
                }
            }
        }
        return 0;
    }

    private static boolean isRight(int[][] w, int mask) {
        int[] d = java.util.stream.IntStream.range(0, 6).filter(i -> (mask >> i & 1) != 0).toArray();
        if (d.length == 3) {
            int x = w[d[0]][d[1]];
            int y = w[d[0]][d[2]];
            int z = w[d[1]][d[2]];
            return x <= y + z && y <= x + z && z <= x + y;
        }
        int[] sums = {w[d[0]][d[1]] + w[d[2]][d[3]], w[d[0]][d[2]] + w[d[1]][d[3]], w[d[0]][d[3]] + w[d[1]][d[2]]};
        Arrays.sort(sums);
        return sums[1] == sums[2];
    }

    private static int[] mended(int[][] w, int n) {
        if (wrong(w, n) == 0) {
            return new int[] {0, 0};
        }
        for (int a = 0; a < n; a++) {
            for (int b = a + 1; b < n; b++) {
                int was = w[a][b];
                int best = -1;
                for (int so = 1; so <= 999; so++) {
                    w[a][b] = so;
                    w[b][a] = so;
                    boolean nearer = best == -1 || Math.abs(so - was) < Math.abs(best - was);
                    if (nearer && wrong(w, n) == 0) {
                        best = so;
                    }
                }
                w[a][b] = was;
                w[b][a] = was;
                if (best != -1) {
                    return new int[] {10 * a + b, best};
                }
            }
        }
        return new int[] {-1, -1};
    }
}
