import java.util.ArrayList;
import java.util.List;
import java.util.Random;

/** Promises 12 to 17, 33, 42 and 43: acts, undone and done again, images. */
public final class ActsTest {
    public static void main(String[] args) {
        growing();
        moving();
        living();
        years();
        longYears();
        undoing();
        fortyActs();
        images();
        grownTowns();
        againstModel();
        Check.finish("ActsTest");
    }

    private static final String THREE = "house a;house b at a street 2 people 3;house c at b street 4 people 5;draw 7;";

    private static void growing() {
        OneWayTown x = Check.told(THREE);
        int[][] bad = {{-1, 1, 1}, {3, 1, 1}, {0, 0, 1}, {0, 100, 1}, {0, -1, 1}, {0, 1, -1}, {0, 1, 100}};
        for (int[] g : bad) {
            Check.due("grow that can't be", x.grow(g[0], g[1], g[2]), -1);
        }
        Check.due("nothing done", x.about(0), 3);
        Check.due("no act", x.about(4), 0);
        Check.due("grow(2, 99, 99)", x.grow(2, 99, 99), 3);
        Check.due("hangs at", x.house(3, 0), 2);
        Check.due("street", x.house(3, 1), 99);
        Check.due("people", x.house(3, 2), 99);
        Check.due("grow(3, 1, 0)", x.grow(3, 1, 0), 4);
        Check.due("way", x.way(0, 4), 106);
        for (int house = 5; house < 14; house++) {
            Check.due("grow", x.grow(house - 1, 1, 1), house);
        }
        Check.due("grow of a fifteenth", x.grow(0, 1, 1), -1);
        Check.due("acts", x.about(4), 11);
        Check.due("no town: grow", new OneWayTown().grow(0, 1, 1), -1);
        // A house may grow where a cart is; none is at the new one.
        x = Check.told("house a;house b at a street 1;cart c at a to b;");
        Check.due("grow at a cart's house", x.grow(0, 1, 1), 2);
        Check.due("carts", x.about(3), 1);
    }

    private static void moving() {
        OneWayTown x = Check.told(THREE + "house d at a street 9;");
        int[][] bad = {{0, 1}, {0, 0}, {1, 1}, {1, 2}, {2, 2}, {4, 0}, {-1, 0}, {1, 4}, {1, -1}};
        for (int[] m : bad) {
            Check.due("move that can't be", x.move(m[0], m[1]), false);
        }
        Check.due("no act", x.about(4), 0);
        Check.due("move(1, 3)", x.move(1, 3), true);
        Check.due("hangs at", x.house(1, 0), 3);
        Check.due("as long as it was", x.house(1, 1), 2);
        Check.due("way(0, 2)", x.way(0, 2), 15);
        Check.lying("way(0, 2)", x, 0, 3, 1, 2);
        Check.due("what is behind now", x.move(3, 2), false);
        Check.due("move(2, 0)", x.move(2, 0), true);
        Check.due("not behind any more", x.move(3, 2), true);
        Check.due("way(0, 1)", x.way(0, 1), 15);
        Check.lying("way(0, 1)", x, 0, 2, 3, 1);
        Check.due("acts", x.about(4), 3);
        Check.due("to where it hangs already", x.move(3, 2), true);
        Check.due("an act all the same", x.about(4), 4);
    }

    private static void living() {
        OneWayTown x = Check.told(THREE);
        Check.due("live(3, 1)", x.live(3, 1), -1);
        Check.due("live(-1, 1)", x.live(-1, 1), -1);
        Check.due("live(0, -1)", x.live(0, -1), -1);
        Check.due("live(0, 100)", x.live(0, 100), -1);
        Check.due("no act", x.about(4), 0);
        Check.due("live(1, 99)", x.live(1, 99), 3);
        Check.due("live(1, 0)", x.live(1, 0), 99);
        Check.due("people", x.house(1, 2), 0);
        Check.due("people together", x.about(1), 6);
        Check.due("live(1, 0) again", x.live(1, 0), 0);
        Check.due("acts", x.about(4), 3);
        Check.due("no town: live", new OneWayTown().live(0, 0), -1);
    }

    private static void years() {
        OneWayTown x = Check.told("house a people 4;draw 3;");
        // 3 * 137 + 71 = 482, rest by 4 is 2: grows at 0, 1 + 5 long, people 2.
        Check.due("years(1)", x.years(1), 2);
        Check.due("seed", x.about(10), 482);
        Check.due("street", x.house(1, 1), 6);
        Check.due("people", x.house(1, 2), 2);
        // A seed whose rest by 4 is 0: 31 * 137 + 71 = 4318 is 318; 7 * 137 + 71 = 1030 is 30.
        x = Check.told("house a people 4;house b at a street 1 people 5;house c at b street 1 people 6;draw 17;");
        // 17 * 137 + 71 = 2400 is 400: a fire at house c.
        Check.due("a fire", x.years(1), 3);
        Check.due("no people any more", x.house(2, 2), 0);
        Check.due("others stay", x.house(1, 2), 5);
        x = Check.told("house a people 4;house b at a street 1 people 5;house c at b street 1 people 6;draw 17;");
        x.move(1, 0);
        x.move(2, 0);
        x.move(1, 2);
        Check.due("a fire", x.years(1), 3);
        Check.due("the greatest number with one street", x.house(1, 2), 0);
        Check.due("not the one with two", x.house(2, 2), 6);
        x = Check.told("house a people 4;draw 17;");
        Check.due("none burns in a town of one", x.years(1), 1);
        Check.due("people stay", x.house(0, 2), 4);
        Check.due("the year is gone", x.about(10), 400);
        Check.due("years(-1)", x.years(-1), -1);
        Check.due("years(51)", x.years(51), -1);
        Check.due("seed stays", x.about(10), 400);
        Check.due("years(0)", x.years(0), 1);
        Check.due("acts", x.about(4), 2);
        Check.due("years(50)", x.years(50), 14);
        x = Check.told("draw 5;");
        Check.due("years without houses", x.years(1), -1);
        Check.due("years(0) without houses", x.years(0), -1);
        Check.due("seed stays", x.about(10), 5);
        Check.due("no act", x.about(4), 0);
    }

    private static void longYears() {
        for (int seed = 0; seed < 1000; seed += 37) {
            Model model = new Model();
            model.houses.add(new int[] {-1, 0, 98});
            model.seed = seed;
            OneWayTown x = Check.told(model.text());
            for (int i = 0; i < 6; i++) {
                Check.due("years(50)", x.years(50), yearsOf(model, 50));
                same("seed " + seed, x, model);
            }
        }
        // In a full town one more comes to a house, 99 at most.
        Model model = new Model();
        model.houses.add(new int[] {-1, 0, 99});
        for (int i = 1; i < 14; i++) {
            model.houses.add(new int[] {0, 1, 98 + i % 2});
        }
        OneWayTown x = Check.told(model.text());
        for (int i = 0; i < 30; i++) {
            Check.due("years(7)", x.years(7), yearsOf(model, 7));
            same("a full town", x, model);
        }
    }

    private static int yearsOf(Model model, int n) {
        for (int i = 0; i < n; i++) {
            model.year();
        }
        return model.n();
    }

    private static void same(String when, OneWayTown x, Model model) {
        Check.due(when + ": houses", x.about(0), model.n());
        Check.due(when + ": seed", x.about(10), model.seed);
        for (int house = 0; house < model.n(); house++) {
            for (int what = 0; what < 3; what++) {
                Check.due(when + ": house(" + house + ", " + what + ")", x.house(house, what),
                        model.houses.get(house)[what]);
            }
        }
        if (model.n() > 1) {
            Check.due(when + ": longest way", x.farthest(2), model.farthest()[2]);
        }
    }

    private static void undoing() {
        OneWayTown x = Check.told(THREE);
        Check.due("nothing to undo", x.undo(), false);
        Check.due("nothing to redo", x.redo(), false);
        x.grow(0, 9, 9);
        x.live(0, 50);
        x.years(3);
        x.move(2, 0);
        int seed = x.about(10);
        Check.due("acts", x.about(4), 4);
        Check.due("undo move", x.undo(), true);
        Check.due("hangs at again", x.house(2, 0), 1);
        Check.due("ways too", x.way(0, 2), 6);
        Check.due("to be done again", x.about(5), 1);
        Check.due("undo years", x.undo(), true);
        Check.due("houses", x.about(0), 4);
        Check.due("seed", x.about(10), 7);
        Check.due("undo live", x.undo(), true);
        Check.due("people", x.house(0, 2), 1);
        Check.due("undo grow", x.undo(), true);
        Check.due("houses", x.about(0), 3);
        Check.due("no more", x.undo(), false);
        Check.due("kept", x.about(4), 0);
        Check.due("to be done again", x.about(5), 4);
        for (int i = 0; i < 4; i++) {
            Check.due("redo", x.redo(), true);
        }
        Check.due("no more", x.redo(), false);
        Check.due("seed", x.about(10), seed);
        Check.due("moved", x.house(2, 0), 0);
        x.undo();
        x.undo();
        Check.due("what can't be is no act", x.live(99, 1), -1);
        Check.due("what can't be is no act", x.grow(99, 1, 1), -1);
        Check.due("what can't be is no act", x.move(0, 1), false);
        Check.due("what can't be is no act", x.years(99), -1);
        Check.due("what can't be is no act", x.grown(1, 0), false);
        Check.due("still there", x.about(5), 2);
        x.live(0, 3);
        Check.due("another act ends it", x.redo(), false);
        Check.due("kept", x.about(4), 3);
        Check.due("to be done again", x.about(5), 0);
    }

    private static void fortyActs() {
        OneWayTown x = Check.told(THREE);
        for (int i = 1; i <= 45; i++) {
            x.live(0, i);
            Check.due("acts kept", x.about(4), Math.min(i, 40));
        }
        for (int i = 44; i >= 5; i--) {
            Check.due("undo", x.undo(), true);
            Check.due("people then", x.house(0, 2), i);
        }
        Check.due("the oldest are gone", x.undo(), false);
        Check.due("people stay", x.house(0, 2), 5);
        Check.due("kept", x.about(4), 0);
        Check.due("to be done again", x.about(5), 40);
        for (int i = 6; i <= 45; i++) {
            Check.due("redo", x.redo(), true);
            Check.due("people then", x.house(0, 2), i);
        }
        Check.due("no more", x.redo(), false);
        for (int i = 0; i < 10; i++) {
            x.undo();
        }
        x.live(0, 77);
        Check.due("kept", x.about(4), 31);
        x.undo();
        Check.due("people then", x.house(0, 2), 35);
    }

    private static void images() {
        OneWayTown x = Check.told(THREE);
        Check.due("image(-1)", x.image(-1), -1);
        Check.due("image(3)", x.image(3), -1);
        Check.due("back(-1)", x.back(-1), -1);
        Check.due("back(3)", x.back(3), -1);
        Check.due("back of an empty box", x.back(0), -1);
        Check.due("image(0)", x.image(0), 3);
        x.years(4);
        int houses = x.about(0);
        int seed = x.about(10);
        Check.due("image(2)", x.image(2), houses);
        x.live(0, 9);
        x.undo();
        Check.due("kept", x.about(4), 1);
        Check.due("back of an empty box does nothing", x.back(1), -1);
        Check.due("kept", x.about(4), 1);
        Check.due("to be done again", x.about(5), 1);
        Check.due("back(0)", x.back(0), 3);
        Check.due("seed", x.about(10), 7);
        Check.due("no acts", x.about(4), 0);
        Check.due("no acts", x.about(5), 0);
        Check.due("undo", x.undo(), false);
        Check.due("redo", x.redo(), false);
        Check.due("way", x.way(0, 2), 6);
        Check.due("far", x.far(0), 6);
        Check.due("back(2)", x.back(2), houses);
        Check.due("seed", x.about(10), seed);
        x.live(0, 44);
        x.undo();
        Check.due("undo behind back", x.house(0, 2), 1);
        x.live(0, 45);
        Check.due("again", x.back(2), houses);
        Check.due("a box stays as it was kept", x.house(0, 2), 1);
        Check.due("image over another", x.image(0), houses);
        x.years(5);
        Check.due("back(0)", x.back(0), houses);
        OneWayTown empty = new OneWayTown();
        Check.due("image of no houses", empty.image(1), 0);
        empty.grown(4, 0);
        Check.due("back to no houses", empty.back(1), 0);
        Check.due("houses", empty.about(0), 0);
    }

    private static void grownTowns() {
        OneWayTown x = Check.told(THREE);
        Check.due("grown(1)", x.grown(1, 0), false);
        Check.due("grown(0)", x.grown(0, 0), false);
        Check.due("grown(-1)", x.grown(-1, 0), false);
        Check.due("grown(15)", x.grown(15, 0), false);
        Check.due("grown(max)", x.grown(Integer.MAX_VALUE, 0), false);
        Check.due("a mark as great as n", x.grown(5, 0x500), false);
        Check.due("a mark as great as n", x.grown(3, 3), false);
        Check.due("nothing done", x.about(0), 3);
        Check.due("no act", x.about(4), 0);
        Check.due("other bits are of no matter", x.grown(5, 0xfffffffffffff123L), true);
        // Marks 3, 2, 1: 0 - 3, 3 - 2, 2 - 1, 1 - 4.
        int[][] houses = {{-1, 0, 1, 1}, {2, 1, 1, 2}, {3, 1, 1, 2}, {0, 1, 1, 2}, {1, 1, 1, 1}};
        for (int house = 0; house < 5; house++) {
            for (int what = 0; what < 4; what++) {
                Check.due("grown house(" + house + ", " + what + ")", x.house(house, what), houses[house][what]);
            }
        }
        Check.due("the seed stays", x.about(10), 7);
        Check.due("far", x.far(0), 4);
        Check.due("marks", x.marks(), 3);
        Check.lying("marks", x, 3, 2, 1);
        Check.due("an act", x.about(4), 1);
        Check.due("undo", x.undo(), true);
        Check.due("as it was", x.house(2, 1), 4);
        Check.due("redo", x.redo(), true);
        Check.due("houses", x.about(0), 5);
        Check.due("grown(2)", x.grown(2, -1L), true);
        Check.due("two houses", x.house(1, 0), 0);
        Check.due("grown(14)", x.grown(14, 0xddddddddddddL), true);
        Check.due("all at house 13", x.house(13, 3), 13);
        Check.due("13 hangs at 0", x.house(13, 0), 0);
        Check.due("5 hangs at 13", x.house(5, 0), 13);
        Check.due("a mark of 14", x.grown(14, 0xe00000000000L), false);
        Check.due("the mark behind the last", x.grown(13, 0xe00000000000L), true);
        Check.due("thirteen houses", x.about(0), 13);
        // A house of a cart must be there.
        x = Check.told("house a;house b at a street 1;house c at a street 1;house d at a street 1;cart x at b to d;");
        Check.due("house 3 would be missing", x.grown(3, 0), false);
        Check.due("house 3 is there", x.grown(4, 0x11), true);
        x = Check.told("house a;house b at a street 1;house c at a street 1;house d at a street 1;cart x at d to b;");
        Check.due("house 3 would be missing", x.grown(3, 0), false);
        Check.due("no act", x.about(4), 0);
        Check.due("carts stay", x.about(3), 1);
    }

    private static void againstModel() {
        Random random = new Random(7);
        for (int run = 0; run < 60; run++) {
            Model model = OracleTest.randomTown(1 + random.nextInt(9), run);
            OneWayTown x = Check.told(model.text());
            List<Model> before = new ArrayList<>();
            List<Model> behind = new ArrayList<>();
            Model[] boxes = new Model[3];
            for (int call = 0; call < 100; call++) {
                Model old = model.copy();
                int kind = random.nextInt(12);
                if (kind == 0) {
                    int box = random.nextInt(3);
                    Check.due("image", x.image(box), model.n());
                    boxes[box] = model.copy();
                } else if (kind == 1 && random.nextInt(4) == 0) {
                    int box = random.nextInt(3);
                    Check.due("back", x.back(box), boxes[box] == null ? -1 : boxes[box].n());
                    if (boxes[box] != null) {
                        model = boxes[box].copy();
                        before.clear();
                        behind.clear();
                    }
                } else if (kind <= 4) {
                    Check.due("undo", x.undo(), !before.isEmpty());
                    if (!before.isEmpty()) {
                        behind.add(model);
                        model = before.remove(before.size() - 1);
                    }
                } else if (kind <= 6) {
                    Check.due("redo", x.redo(), !behind.isEmpty());
                    if (!behind.isEmpty()) {
                        before.add(model);
                        model = behind.remove(behind.size() - 1);
                    }
                } else if (act(x, model, random)) {
                    before.add(old);
                    behind.clear();
                    if (before.size() > 40) {
                        before.remove(0);
                    }
                }
                Check.due("acts", x.about(4), before.size());
                Check.due("again", x.about(5), behind.size());
                same("call " + call, x, model);
            }
        }
    }

    private static boolean act(OneWayTown x, Model model, Random random) {
        int house = random.nextInt(model.n());
        int other = random.nextInt(model.n());
        int number = random.nextInt(102) - 1;
        switch (random.nextInt(5)) {
            case 0: {
                boolean can = number >= 1 && number <= 99 && model.n() < 14;
                Check.due("grow", x.grow(house, number, 5), can ? model.n() : -1);
                if (can) {
                    model.houses.add(new int[] {house, number, 5});
                }
                return can;
            }
            case 1: {
                boolean can = house != 0 && !model.isBehind(other, house);
                Check.due("move", x.move(house, other), can);
                if (can) {
                    model.houses.get(house)[0] = other;
                }
                return can;
            }
            case 2: {
                boolean can = number >= 0 && number <= 99;
                Check.due("live", x.live(house, number), can ? model.houses.get(house)[2] : -1);
                if (can) {
                    model.houses.get(house)[2] = number;
                }
                return can;
            }
            case 3: {
                int years = random.nextInt(3);
                Check.due("years", x.years(years), yearsOf(model, years));
                return true;
            }
            default: {
                int n = 2 + random.nextInt(13);
                long marks = random.nextLong();
                int[] row = new int[n - 2];
                boolean can = random.nextInt(3) == 0;
                for (int i = 0; i < n - 2; i++) {
                    if (can) {
                        int mark = random.nextInt(n);
                        marks = marks & ~(15L << 4 * i) | (long) mark << 4 * i;
                    }
                }
                can = true;
                for (int i = 0; i < n - 2; i++) {
                    row[i] = (int) (marks >>> 4 * i & 15);
                    can &= row[i] < n;
                }
                Check.due("grown", x.grown(n, marks), can);
                if (can) {
                    model.houses.clear();
                    model.houses.addAll(Model.fromMarks(n, row).houses);
                }
                return can;
            }
        }
    }
}
