import java.util.ArrayList;
import java.util.List;

/** The boundary cases of carts: part 3 of the terms, promise 28. */
public final class EdgeCartsTest {
    public static void main(String[] args) {
        stepByStep();
        spentOrNot();
        firstToMove();
        stepsAndFirst();
        neverCanBe();
        spentAnswers();
        anotherWhat();
        asToldAsItIs();
        Check.finish("EdgeCartsTest");
    }

    private static void look(String when, OneWayTown x, int steps, int cart, int house) {
        Check.due(when + ": carts(0)", x.carts(0), steps);
        Check.due(when + ": carts(1)", x.carts(1), cart);
        Check.due(when + ": carts(2)", x.carts(2), house);
    }

    private static void stepByStep() {
        Check.says("Terms 3", "CARTS BACK: in each STEP one CART goes over one street, if no CART is at its other end: "
                + "the fewest STEPS in which all are where they go; none, if they never can be.");
        look("one cart, one street", Check.told(Edge.lane(2, 99, 1) + "cart c at b to a;"), 1, 0, 0);
        look("the longest way", Check.told(Edge.lane(14, 99, 1) + "cart c at n to a;"), 13, 0, 12);
        look("the other way", Check.told(Edge.lane(14, 99, 1) + "cart c at a to n;"), 13, 0, 1);
        // All four in a row of four: none can move.
        look("a full row", Check.told(Edge.lane(4, 1, 1) + "cart p at a to b;cart q at b to c;cart r at c to d;cart s at d to a;"),
                -1, -1, -1);
        look("two in a row of two", Check.told(Edge.lane(2, 1, 1) + "cart p at a to b;cart q at b to a;"), -1, -1, -1);
        // Four in a row of five, all one on: the foremost goes first.
        look("one on", Check.told(Edge.lane(5, 1, 1) + "cart p at a to b;cart q at b to c;cart r at c to d;cart s at d to e;"),
                4, 3, 4);
        // A full star of four carts around: the middle is free.
        look("around", Check.told(Edge.star(5, 1, 1) + "cart p at b to c;cart q at c to b;"), 6, 0, 0);
        look("no place to wait", Check.told(Edge.star(3, 1, 1) + "cart p at b to c;cart q at c to b;"), -1, -1, -1);
    }

    /** All states in the order in which they are come to, from a model's first one on. */
    private static List<List<Integer>> states(int[] at, int[] start) {
        boolean[][] street = new boolean[at.length][at.length];
        for (int house = 1; house < at.length; house++) {
            street[house][at[house]] = true;
            street[at[house]][house] = true;
        }
        List<List<Integer>> queue = new ArrayList<>();
        java.util.Set<List<Integer>> seen = new java.util.HashSet<>();
        List<Integer> first = new ArrayList<>();
        for (int house : start) {
            first.add(house);
        }
        queue.add(first);
        seen.add(first);
        for (int i = 0; i < queue.size(); i++) {
            for (int cart = 0; cart < start.length; cart++) {
                for (int house = 0; house < at.length; house++) {
                    List<Integer> next = new ArrayList<>(queue.get(i));
                    if (street[next.get(cart)][house] && !next.contains(house)) {
                        next.set(cart, house);
                        if (seen.add(next)) {
                            queue.add(next);
                        }
                    }
                }
            }
        }
        return queue;
    }

    private static String text(int[] at, int[] start, List<Integer> goal) {
        StringBuilder text = new StringBuilder("house a;");
        for (int house = 1; house < at.length; house++) {
            text.append("house ").append(Edge.name(house)).append(" at ").append(Edge.name(at[house])).append(" street 1;");
        }
        for (int cart = 0; cart < start.length; cart++) {
            text.append("cart ").append(Edge.name(cart)).append(" at ").append(Edge.name(start[cart]));
            text.append(" to ").append(Edge.name(goal.get(cart))).append(";");
        }
        return text.toString();
    }

    private static boolean canBeTold(int[] start, List<Integer> goal) {
        for (int cart = 0; cart < start.length; cart++) {
            if (start[cart] == goal.get(cart)) {
                return false;
            }
        }
        return true;
    }

    private static final int[] WIDE = {0, 0, 0, 0, 3, 2, 4, 4, 5, 8, 7, 10, 10, 12};
    private static final int[] WIDE_START = {2, 5, 4, 10};

    private static void spentOrNot() {
        Check.says("Terms 3", "STATES (which HOUSE each is at) are come to from the first one on, from each in the order in which "
                + "these were come to, CART by CART, HOUSE by HOUSE, each once: SPENT, if that in which all are where they go "
                + "is not among the first 20,000 (the first counts), and there are more.");
        List<List<Integer>> all = states(WIDE, WIDE_START);
        Check.due("there are more than 20,000", all.size() > 20001, true);
        // Place 20,000 is the last that counts, 20,001 the first that does not (the first state is place 1).
        for (int place = 19990; place <= 20012; place++) {
            List<Integer> goal = all.get(place - 1);
            if (canBeTold(WIDE_START, goal)) {
                int steps = Check.told(text(WIDE, WIDE_START, goal)).carts(0);
                Check.due("state " + place + " counts", steps > 0, place <= 20000);
                Check.due("state " + place + " is spent", steps == -2, place > 20000);
            }
        }
        Check.due("the 20,000th can be told", canBeTold(WIDE_START, all.get(19999)), true);
        Check.due("the 20,001st can be told", canBeTold(WIDE_START, all.get(20000)), true);
        int last = all.size() - 1;
        while (!canBeTold(WIDE_START, all.get(last))) {
            last--;
        }
        Check.due("the last one of all", Check.told(text(WIDE, WIDE_START, all.get(last))).carts(0), -2);
        // Thirteen houses have 17,160 states: none is ever spent.
        int[] less = {0, 0, 0, 0, 3, 2, 4, 4, 5, 8, 7, 10, 10};
        List<List<Integer>> fewer = states(less, WIDE_START);
        Check.due("at most 17,160", fewer.size() <= 17160, true);
        last = fewer.size() - 1;
        while (!canBeTold(WIDE_START, fewer.get(last))) {
            last--;
        }
        Check.due("the last one of thirteen houses", Check.told(text(less, WIDE_START, fewer.get(last))).carts(0) > 0, true);
        // One more that can't be come to, with fewer than 20,000 in all: none.
        Check.due("a row of fourteen", Check.told(Edge.lane(14, 1, 1) + "cart a at a to n;cart b at b to m;cart c at c to l;"
                + "cart d at d to k;").carts(0), -1);
    }

    private static void firstToMove() {
        Check.says("Terms 3", "The first CART to move, where to: of the first such row (STEP by STEP: the CART, then the HOUSE).");
        // Both must go one step, in either order: the first cart.
        look("either order", Check.told(Edge.lane(4, 1, 1) + "cart p at a to b;cart q at d to c;"), 2, 0, 1);
        look("either order", Check.told(Edge.lane(4, 1, 1) + "cart p at d to c;cart q at a to b;"), 2, 0, 2);
        // The second must make room first.
        look("room first", Check.told(Edge.lane(3, 1, 1) + "cart p at a to b;cart q at b to c;"), 2, 1, 2);
        // Where one steps aside there are several: the first house.
        look("aside", Check.told("house m;house a at m street 1;house b at m street 1;house c at m street 1;house d at m street 1;"
                + "cart p at m to a;cart q at a to m;"), 6, 0, 2);
        // The greatest cart, the greatest house.
        look("cart 3 to house 13", Check.told(Edge.lane(14, 1, 1)
                + "cart p at j to k;cart q at k to l;cart r at l to m;cart s at m to n;"), 4, 3, 13);
    }

    private static void stepsAndFirst() {
        Check.says("Promise 28", "CARTS BACK what 0: how many STEPS, 1: the first CART (NONE with 0), 2: where to (NONE with 0)");
        look("a new object", new OneWayTown(), 0, -1, -1);
        look("no carts", Check.told(Edge.lane(14, 1, 1)), 0, -1, -1);
        look("no houses", Check.told("draw 5;"), 0, -1, -1);
        look("one step", Check.told(Edge.lane(2, 1, 1) + "cart c at a to b;"), 1, 0, 1);
        OneWayTown x = Check.told(Edge.lane(2, 1, 1) + "cart c at a to b;");
        Check.due("asked first: where to", x.carts(2), 1);
        Check.due("asked first: which", x.carts(1), 0);
        Check.due("they stay where they are", x.carts(0), 1);
    }

    private static void neverCanBe() {
        Check.says("Promise 28", "NONE if it can't be");
        OneWayTown x = Check.told(Edge.lane(3, 1, 1) + "cart c at a to c;cart d at c to a;");
        look("they can't pass", x, -1, -1, -1);
        look("asked again", x, -1, -1, -1);
    }

    private static void spentAnswers() {
        Check.says("Promise 28", "-2 if SPENT");
        List<List<Integer>> all = states(WIDE, WIDE_START);
        OneWayTown x = Check.told(text(WIDE, WIDE_START, all.get(20000)));
        look("the 20,001st", x, -2, -2, -2);
        look("asked again", x, -2, -2, -2);
        Check.due("another what even so", x.carts(3), -3);
        // The one ahead is found, in as many steps.
        OneWayTown y = Check.told(text(WIDE, WIDE_START, all.get(19999)));
        Check.due("the 20,000th", y.carts(0) > 20, true);
        Check.due("its first cart", y.carts(1) >= 0 && y.carts(1) < 4, true);
        Check.due("its first house", y.carts(2) >= 0 && y.carts(2) < 14, true);
    }

    private static void anotherWhat() {
        Check.says("Promise 28", "-3 for another what.");
        for (int what : Edge.outside(0, 2)) {
            Check.due("no houses: carts(" + what + ")", new OneWayTown().carts(what), -3);
            Check.due("no carts: carts(" + what + ")", Check.told("house a;").carts(what), -3);
            Check.due("carts: carts(" + what + ")", Edge.busy().carts(what), -3);
            Check.due("never: carts(" + what + ")",
                    Check.told(Edge.lane(2, 1, 1) + "cart p at a to b;cart q at b to a;").carts(what), -3);
        }
    }

    private static void asToldAsItIs() {
        Check.says("Promise 28", "(CARTS as told, the TOWN as it is.)");
        OneWayTown x = Check.told(Edge.lane(3, 1, 1) + "cart c at a to c;cart d at c to a;");
        look("as told", x, -1, -1, -1);
        x.image(0);
        x.grow(1, 9, 9);
        look("grown", x, 6, 0, 1);
        x.undo();
        look("undone", x, -1, -1, -1);
        x.redo();
        look("done again", x, 6, 0, 1);
        x.image(1);
        x.back(0);
        look("back", x, -1, -1, -1);
        x.back(1);
        look("and on", x, 6, 0, 1);
        x.move(3, 2);
        look("moved", x, -1, -1, -1);
        Check.due("grown from marks", x.grown(4, 0x33), true);
        look("a star of four at house 3", x, 6, 0, 3);
        x.undo();
        look("undone", x, -1, -1, -1);
        // A fault leaves the carts; another town has its own.
        Check.tape(x, "house");
        x.town();
        look("behind a fault", x, -1, -1, -1);
        x.end(0);
        x.town();
        look("another town", x, 0, -1, -1);
        Check.due("no carts", x.about(3), 0);
        x.grown(3, 1);
        look("grown without carts", x, 0, -1, -1);
        // Years bring a side street.
        x = Check.told(Edge.lane(3, 1, 1) + "cart c at a to c;cart d at c to a;draw 70;");
        int houses = x.years(20);
        Check.due("houses", houses, 14);
        Check.due("they can pass now", x.carts(0) > 0, true);
    }
}
