import java.util.Random;

/** Promises 6 to 11, 18 to 32 and 35 on many small towns, against the plain model. */
public final class OracleTest {
    private static final Random RANDOM = new Random(20261118);

    public static void main(String[] args) {
        for (int i = 0; i < 400; i++) {
            Model model = randomTown(1 + RANDOM.nextInt(7), i);
            OneWayTown x = Check.told(model.text());
            moveSome(x, model);
            compare(x, model);
        }
        for (int i = 0; i < 12; i++) {
            Model model = randomTown(10 + RANDOM.nextInt(5), i);
            OneWayTown x = Check.told(model.text());
            moveSome(x, model);
            compareSets(x, model);
            compareWays(x, model);
        }
        for (int i = 0; i < 60; i++) {
            Model model = randomTown(4 + RANDOM.nextInt(5), i);
            addCarts(model);
            OneWayTown x = Check.told(model.text());
            moveSome(x, model);
            compareCarts(x, model);
        }
        for (int i = 0; i < 300; i++) {
            compareLikeness();
        }
        Check.finish("OracleTest");
    }

    static Model randomTown(int size, int flavour) {
        Model model = new Model();
        int longest = flavour % 3 == 0 ? 1 : flavour % 3 == 1 ? 4 : 99;
        int people = flavour % 4 == 0 ? 0 : flavour % 4 == 1 ? 2 : 99;
        for (int house = 0; house < size; house++) {
            int street = house == 0 ? 0 : 1 + RANDOM.nextInt(longest);
            int at = house == 0 ? -1 : RANDOM.nextInt(flavour % 5 == 0 ? Math.min(house, 2) : house);
            model.houses.add(new int[] {at, street, RANDOM.nextInt(people + 1)});
        }
        model.seed = RANDOM.nextInt(1000);
        return model;
    }

    static void addCarts(Model model) {
        int[] at = RANDOM.ints(0, model.n()).distinct().limit(Math.min(4, model.n())).toArray();
        int[] to = RANDOM.ints(0, model.n()).distinct().limit(Math.min(4, model.n())).toArray();
        int count = 1 + RANDOM.nextInt(4);
        for (int i = 0; i < count && i < at.length; i++) {
            if (at[i] != to[i]) {
                model.carts.add(new int[] {at[i], to[i]});
            }
        }
    }

    static void moveSome(OneWayTown x, Model model) {
        for (int i = 0; i < 4; i++) {
            int house = RANDOM.nextInt(model.n());
            int at = RANDOM.nextInt(model.n());
            boolean can = house != 0 && !model.isBehind(at, house);
            Check.due("move(" + house + ", " + at + ") of " + model.text(), x.move(house, at), can);
            if (can) {
                model.houses.get(house)[0] = at;
            }
        }
    }

    private static void compare(OneWayTown x, Model model) {
        compareWays(x, model);
        compareSets(x, model);
        String town = " of " + model.text();
        for (int house = 0; house < model.n(); house++) {
            Check.due("post home from " + house + town, x.post(house, true), model.post(house, true));
            Check.due("post from " + house + town, x.post(house, false), model.post(house, false));
            Check.due("news " + house + town, x.news(house), model.news(house));
            Check.due("tidings " + house + town, x.tidings(house), model.tidings(house, -1));
        }
        int best = 0;
        for (int house = 1; house < model.n(); house++) {
            best = model.news(house) < model.news(best) ? house : best;
        }
        Check.due("bestNews" + town, x.bestNews(), best);
        Check.due("selves(true)" + town, x.selves(true), model.likes(model, true));
        Check.due("selves(false)" + town, x.selves(false), model.likes(model, false));
    }

    private static void compareWays(OneWayTown x, Model model) {
        String town = " of " + model.text();
        int n = model.n();
        int[][] w = model.ways();
        for (int a = 0; a < n; a++) {
            for (int b = 0; b < n; b++) {
                Check.due("way(" + a + ", " + b + ")" + town, x.way(a, b), w[a][b]);
                compareWalk(x, model, a, b);
            }
            Check.due("far(" + a + ")" + town, x.far(a), model.far(a));
            Check.due("house(" + a + ", 0)" + town, x.house(a, 0), model.houses.get(a)[0]);
            Check.due("house(" + a + ", 1)" + town, x.house(a, 1), model.houses.get(a)[1]);
            Check.due("house(" + a + ", 2)" + town, x.house(a, 2), model.houses.get(a)[2]);
            Check.due("house(" + a + ", 3)" + town, x.house(a, 3), model.streetsAt(a));
            int[] quarters = model.quarters(a);
            Check.due("quarters(" + a + ")" + town, x.quarters(a), quarters.length);
            Check.lying("quarters(" + a + ")" + town, x, quarters);
            for (int what = 0; a > 0 && what < 3; what++) {
                Check.due("joined(" + a + ", " + what + ")" + town, x.joined(a, what), model.joinedElsewhere(a)[what]);
            }
        }
        for (int what = 0; what < 3; what++) {
            Check.due("farthest(" + what + ")" + town, x.farthest(what), n < 2 ? -1 : model.farthest()[what]);
            Check.due("middle(" + what + ")" + town, x.middle(what), model.middle(what));
        }
        int[] marks = model.marks();
        Check.due("marks" + town, x.marks(), marks.length);
        Check.lying("marks" + town, x, marks);
    }

    private static void compareWalk(OneWayTown x, Model model, int a, int b) {
        int count = x.about(9);
        Check.due("a walk begins", x.lies(0), a);
        Check.due("a walk ends", x.lies(count - 1), b);
        int sum = 0;
        int seen = 0;
        for (int i = 0; i < count; i++) {
            Check.due("no house twice", seen >> x.lies(i) & 1, 0);
            seen |= 1 << x.lies(i);
            if (i > 0) {
                Check.due("a walk goes by streets", model.joined(x.lies(i - 1), x.lies(i)), true);
                sum += model.ways()[x.lies(i - 1)][x.lies(i)];
            }
        }
        Check.due("a walk is as long", sum, model.ways()[a][b]);
    }

    private static void compareSets(OneWayTown x, Model model) {
        String town = " of " + model.text();
        int[] reaches = {0, 1, 2, 3, 5, 8, 13, 40, 99, 130, 200, 999};
        for (int d : reaches) {
            Check.due("wardens(" + d + ")" + town, x.wardens(d), model.wardens(d));
        }
        Check.due("quiet()" + town, x.quiet(), model.quiet());
        Check.due("guards()" + town, x.guards(), model.guards());
        for (int what = 0; what < 4; what++) {
            Check.due("counted(" + what + ")" + town, x.counted(what), model.counted(what));
        }
        for (int k = 1; k <= 4; k++) {
            int[] shops = model.shops(k);
            Check.due("shops(" + k + ")" + town, x.shops(k), shops[0]);
            Check.lying("shops(" + k + ")" + town, x, bits(shops[1]));
            if (model.n() <= 7) {
                int d = model.wells(k);
                Check.due("wells(" + k + ")" + town, x.wells(k), d);
                Check.lying("wells(" + k + ")" + town, x, bits(model.wardens(d)));
            }
        }
    }

    private static int[] bits(int set) {
        return java.util.stream.IntStream.range(0, 14).filter(i -> (set >> i & 1) != 0).toArray();
    }

    static void compareCarts(OneWayTown x, Model model) {
        int[] want = model.cartsBack();
        for (int what = 0; what < 3; what++) {
            Check.due("carts(" + what + ") of " + model.text(), x.carts(what), want[what]);
        }
    }

    private static void compareLikeness() {
        int size = 1 + RANDOM.nextInt(7);
        Model kept = randomTown(size, RANDOM.nextInt(3) == 0 ? 3 : RANDOM.nextInt(2));
        OneWayTown x = Check.told(kept.text());
        x.image(2);
        Model model = kept.copy();
        moveSome(x, model);
        String towns = " of " + kept.text() + " and " + model.text();
        Check.due("alike(2, true)" + towns, x.alike(2, true), model.likes(kept, true) > 0 ? 1 : 0);
        Check.due("alike(2, false)" + towns, x.alike(2, false), model.likes(kept, false) > 0 ? 1 : 0);
        Check.due("alike of a box that is empty", x.alike(1, false), -1);
    }
}
