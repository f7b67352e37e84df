import java.util.Random;

/** Promise 28: carts that must back. */
public final class CartsTest {
    public static void main(String[] args) {
        noCarts();
        blocked();
        sidings();
        changedTown();
        theFirstTwentyThousand();
        bigTowns();
        Check.finish("CartsTest");
    }

    private static void look(String when, OneWayTown x, int steps, int cart, int house) {
        Check.due(when + ": carts(0)", x.carts(0), steps);
        Check.due(when + ": carts(1)", x.carts(1), cart);
        Check.due(when + ": carts(2)", x.carts(2), house);
        Check.due(when + ": carts(3)", x.carts(3), -3);
        Check.due(when + ": carts(-1)", x.carts(-1), -3);
    }

    private static void noCarts() {
        look("no town", new OneWayTown(), 0, -1, -1);
        look("no carts", Check.told("house a;house b at a street 1;"), 0, -1, -1);
    }

    private static void blocked() {
        OneWayTown x = Check.told("house a;house b at a street 1;cart x at a to b;cart y at b to a;");
        look("two in a lane", x, -1, -1, -1);
        x = Check.told("house a;house b at a street 1;cart x at a to b;");
        look("one in a lane", x, 1, 0, 1);
        x = Check.told("house a;house b at a street 5;house c at b street 7;cart x at b to c;cart y at a to b;");
        look("two behind each other", x, 2, 0, 2);
    }

    private static void sidings() {
        OneWayTown x = Check.told("house m;house a at m street 9;house b at m street 9;house c at m street 9;"
                + "cart x at b to a;cart y at a to b;");
        look("a star", x, 6, 0, 0);
        // Of like rows the first: the least cart, then the least house.
        x = Check.told("house m;house a at m street 1;house b at m street 1;house c at m street 1;"
                + "cart x at m to a;cart y at c to b;");
        look("the first row", x, 3, 0, 1);
        x = Check.told("house m;house a at m street 1;house b at m street 1;house c at m street 1;"
                + "cart x at c to b;cart y at m to a;");
        look("the second cart must go first", x, 3, 1, 1);
    }

    private static void changedTown() {
        OneWayTown x = Check.told("house a;house b at a street 1;house c at b street 1;cart x at a to c;cart y at c to a;");
        look("as told", x, -1, -1, -1);
        x.grow(1, 50, 0);
        look("with a siding", x, 6, 0, 1);
        x.undo();
        look("undone", x, -1, -1, -1);
        x.redo();
        look("done again", x, 6, 0, 1);
        x.move(3, 0);
        look("moved", x, -1, -1, -1);
        x.image(0);
        x.grow(1, 1, 1);
        Check.due("a better one", x.carts(0), 6);
        x.back(0);
        look("back", x, -1, -1, -1);
        x.live(0, 5);
        look("people are of no matter", x, -1, -1, -1);
        Check.due("grown", x.grown(4, 0x33), true);
        look("a star at house 3", x, 6, 0, 3);
        Check.due("years", x.years(1) > 0, true);
        Check.due("years keep the star", x.carts(0), 6);
        Check.tape(x, "house a;");
        x.town();
        look("another town", x, 0, -1, -1);
    }

    private static Model model(int[] at, int[] start, int[] goal) {
        Model model = new Model();
        for (int house = 0; house < at.length; house++) {
            model.houses.add(new int[] {house == 0 ? -1 : at[house], house == 0 ? 0 : 1, 1});
        }
        for (int cart = 0; cart < start.length; cart++) {
            model.carts.add(new int[] {start[cart], goal[cart]});
        }
        return model;
    }

    private static void theFirstTwentyThousand() {
        int[] at = {0, 0, 0, 0, 3, 2, 4, 4, 5, 8, 7, 10, 10, 12};
        int[] start = {2, 5, 4, 10};
        Model last = model(at, start, new int[] {12, 0, 1, 2});
        OneWayTown x = Check.told(last.text());
        int[] want = last.cartsBack();
        Check.due("the 20,000th state counts", want[0] > 0, true);
        look("the 20,000th state", x, want[0], want[1], want[2]);
        Model spent = model(at, start, new int[] {12, 3, 0, 2});
        look("the 20,001st state", Check.told(spent.text()), -2, -2, -2);
        Check.due("a town that is shut", Check.told(model(new int[] {0, 0, 1, 2, 3, 4, 5, 6, 7, 8, 9, 10, 11, 12},
                new int[] {0, 1, 2, 3}, new int[] {13, 12, 11, 10}).text()).carts(0), -1);
    }

    private static void bigTowns() {
        Random random = new Random(3);
        for (int run = 0; run < 8; run++) {
            int[] at = new int[14];
            for (int i = 1; i < 14; i++) {
                at[i] = run % 2 == 0 ? random.nextInt(i) : Math.max(0, i - 1 - random.nextInt(2));
            }
            int[] start = random.ints(0, 14).distinct().limit(4).toArray();
            int[] goal = random.ints(0, 14).distinct().limit(4).toArray();
            boolean can = true;
            for (int i = 0; i < 4; i++) {
                can &= start[i] != goal[i];
            }
            if (can) {
                Model model = model(at, start, goal);
                int[] want = model.cartsBack();
                look(model.text(), Check.told(model.text()), want[0], want[1], want[2]);
            }
        }
    }
}
