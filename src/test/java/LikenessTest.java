import java.util.Random;

/** Promises 29 to 32 and 34: alike, selves, unlike, marks, tried. */
public final class LikenessTest {
    public static void main(String[] args) {
        noTown();
        boxes();
        likeTowns();
        selves();
        unlike();
        marks();
        tried();
        Check.finish("LikenessTest");
    }

    private static void noTown() {
        OneWayTown x = new OneWayTown();
        Check.due("selves of no houses", x.selves(true), 1);
        Check.due("selves of no houses", x.selves(false), 1);
        Check.due("marks of no houses", x.marks(), 0);
        x.image(0);
        Check.due("two of no houses are alike", x.alike(0, true), 1);
        x.grown(2, 0);
        Check.due("not any more", x.alike(0, false), 0);
    }

    private static void boxes() {
        OneWayTown x = Check.told("house a;");
        for (int box = -1; box <= 3; box++) {
            Check.due("an empty box", x.alike(box, false), -1);
        }
        x.image(1);
        Check.due("box 1", x.alike(1, true), 1);
        Check.due("box 0", x.alike(0, true), -1);
        Check.due("box 2", x.alike(2, true), -1);
        Check.due("box max", x.alike(Integer.MAX_VALUE, true), -1);
        Check.due("box min", x.alike(Integer.MIN_VALUE, true), -1);
        Check.due("no act", x.about(4), 0);
    }

    private static void likeTowns() {
        OneWayTown x = Check.told("house a people 9;house b at a street 3;house c at b street 5;house d at b street 7;");
        x.image(0);
        x.live(0, 1);
        Check.due("people don't count", x.alike(0, true), 1);
        x.move(2, 0);
        Check.due("another form", x.alike(0, false), 0);
        x.move(3, 0);
        Check.due("a star at another house", x.alike(0, false), 1);
        Check.due("a star of like lengths", x.alike(0, true), 1);
        x.image(1);
        x.grow(0, 1, 1);
        Check.due("one house more", x.alike(1, false), 0);
        x = Check.told("house a;house b at a street 3;house c at b street 5;house d at c street 7;");
        x.image(0);
        Check.tape(x, "");
        x.move(3, 0);
        // Now d - a - b - c with 7, 3, 5: not 3, 5, 7 in a row.
        Check.due("lengths left aside", x.alike(0, false), 1);
        Check.due("lengths count", x.alike(0, true), 0);
        // Many like branches: all must find another.
        x = new OneWayTown();
        x.grown(14, 0);
        x.image(2);
        x.grown(14, 0x777777777777L);
        Check.due("stars of fourteen", x.alike(2, true), 1);
        x.grown(14, 0x777777777770L);
        Check.due("not quite a star", x.alike(2, false), 0);
    }

    private static void selves() {
        OneWayTown x = new OneWayTown();
        x.grown(14, 0x777777777777L);
        Check.due("a star of fourteen", x.selves(true), 6227020800L);
        Check.due("a star of fourteen", x.selves(false), 6227020800L);
        x.grown(14, 0xcba987654321L);
        Check.due("a lane of fourteen", x.selves(true), 2);
        Check.due("one house", Check.told("house a;").selves(true), 1);
        Check.due("two houses", Check.told("house a;house b at a street 1;").selves(true), 2);
        x = Check.told("house a;house b at a street 1;house c at a street 2;house d at a street 1;");
        Check.due("lengths count", x.selves(true), 2);
        Check.due("lengths left aside", x.selves(false), 6);
        // Two stars of seven joined: 6! * 6! * 2 = 1,036,800.
        x = Check.told("house a;house b at a street 9;house c at a street 1;house d at a street 1;house e at a street 1;"
                + "house f at a street 1;house g at a street 1;house h at a street 1;house i at b street 1;"
                + "house j at b street 1;house k at b street 1;house l at b street 1;house m at b street 1;"
                + "house n at b street 1;");
        Check.due("two stars", x.selves(true), 1036800);
    }

    private static void unlike() {
        int[] counts = {1, 1, 1, 2, 3, 6, 11, 23, 47, 106, 235, 551, 1301, 3159};
        OneWayTown x = new OneWayTown();
        for (int size = 14; size >= 1; size--) {
            Check.due("unlike(" + size + ")", x.unlike(size), counts[size - 1]);
        }
        int[] bad = {0, 15, -1, Integer.MIN_VALUE, Integer.MAX_VALUE};
        for (int size : bad) {
            Check.due("unlike(" + size + ")", x.unlike(size), -1);
        }
    }

    private static void marks() {
        OneWayTown x = Check.told("house a;");
        x.way(0, 0);
        Check.due("marks of one", x.marks(), 0);
        Check.lying("marks of one", x);
        x = Check.told("house a;house b at a street 1;");
        Check.due("marks of two", x.marks(), 0);
        Check.lying("marks of two", x);
        // b, c at a; d at b; e at b: c is taken first (a), then a (b), then d (b).
        x = Check.told("house a;house b at a street 1;house c at a street 1;house d at b street 1;house e at b street 1;");
        Check.due("marks of five", x.marks(), 3);
        Check.lying("marks of five", x, 0, 1, 1);
        Random random = new Random(9);
        for (int run = 0; run < 200; run++) {
            int n = 2 + random.nextInt(13);
            long marks = 0;
            int[] row = new int[n - 2];
            for (int i = 0; i < n - 2; i++) {
                row[i] = random.nextInt(n);
                marks |= (long) row[i] << 4 * i;
            }
            x = new OneWayTown();
            Check.due("grown", x.grown(n, marks), true);
            Check.due("marks", x.marks(), n - 2);
            Check.lying("marks tell the town whole", x, row);
            int houses = 0;
            for (int house = 0; house < n; house++) {
                houses += x.far(house) >= 0 && x.far(house) < n ? 1 : 0;
            }
            Check.due("all hang together", houses, n);
        }
    }

    private static void tried() {
        OneWayTown x = new OneWayTown();
        for (int law = 0; law < 3; law++) {
            for (int n = 2; n <= 6; n++) {
                Check.due("tried(" + law + ", " + n + ")", x.tried(law, n), broken(law, n));
                Check.due("tried again", x.tried(law, n), broken(law, n));
            }
            Check.due("n 1", x.tried(law, 1), -1);
            Check.due("n 7", x.tried(law, 7), -1);
            Check.due("n -1", x.tried(law, -1), -1);
        }
        Check.due("law 3", x.tried(3, 4), -1);
        Check.due("law -1", x.tried(-1, 4), -1);
        Check.due("law max", x.tried(Integer.MAX_VALUE, 4), -1);
        Check.due("n max", x.tried(0, Integer.MAX_VALUE), -1);
        Check.due("no act", x.about(4), 0);
        Check.due("no houses", x.about(0), 0);
    }

    /** For how many towns a law does not hold, by the plain model. */
    private static int broken(int law, int n) {
        int towns = (int) Math.pow(n, n - 2);
        int broken = 0;
        for (int number = 0; number < towns; number++) {
            int[] row = new int[n - 2];
            for (int i = 0, rest = number; i < n - 2; i++, rest /= n) {
                row[i] = rest % n;
            }
            Model model = Model.fromMarks(n, row);
            boolean holds = law == 0 ? middles(model) : law == 1 ? fours(model) : ends(model);
            broken += holds ? 0 : 1;
        }
        return broken;
    }

    private static boolean middles(Model model) {
        int least = model.far(model.middle(0));
        int[] all = java.util.stream.IntStream.range(0, model.n()).filter(h -> model.far(h) == least).toArray();
        return all.length == 1 || all.length == 2 && model.joined(all[0], all[1]);
    }

    private static boolean fours(Model model) {
        int[][] w = model.ways();
        for (int a = 0; a < model.n(); a++) {
            for (int b = 0; b < a; b++) {
                for (int c = 0; c < b; c++) {
                    for (int d = 0; d < c; d++) {
                        int[] sums = {w[a][b] + w[c][d], w[a][c] + w[b][d], w[a][d] + w[b][c]};
                        java.util.Arrays.sort(sums);
                        if (sums[1] != sums[2]) {
                            return false;
                        }
                    }
                }
            }
        }
        return true;
    }

    private static boolean ends(Model model) {
        int[][] w = model.ways();
        boolean[] served = new boolean[model.n()];
        int wardens = 0;
        while (true) {
            int farthest = -1;
            for (int house = 0; house < model.n(); house++) {
                if (!served[house] && (farthest == -1 || w[0][house] > w[0][farthest])) {
                    farthest = house;
                }
            }
            if (farthest == -1) {
                return wardens == Integer.bitCount(model.wardens(1));
            }
            int at = farthest == 0 ? 0 : model.houses.get(farthest)[0];
            for (int house = 0; house < model.n(); house++) {
                served[house] |= w[at][house] <= 1;
            }
            wardens++;
        }
    }
}
