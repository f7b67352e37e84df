/** The boundary cases of all that can be asked about an object: promise 44, the constant, the 512 calls. */
public final class EdgeAboutTest {
    public static void main(String[] args) {
        theConstant();
        leastNumbers();
        greatestNumbers();
        otherWhats();
        manyCalls();
        Check.finish("EdgeAboutTest");
    }

    private static void theConstant() {
        Check.says("Terms 5", "The constants: `NONE = -1`: There is none.");
        Check.due("NONE", OneWayTown.NONE, -1);
    }

    private static void leastNumbers() {
        Check.says("Promise 44", "What 0: HOUSES, 1: people together, 2: streets' lengths together, 3: CARTS, "
                + "4: ACTS that can be undone, 5: redone, 6: DISTANCES, 7: the TIME, 8: bytes on the TAPE, "
                + "9: numbers that lie there, 10: the SEED.");
        for (int what = 0; what <= 10; what++) {
            Check.due("new: about(" + what + ")", new OneWayTown().about(what), 0);
        }
        OneWayTown x = Check.told("house a people 0;");
        int[] want = {1, 0, 0, 0, 0, 0, 0, 0, 0, 0, 0};
        for (int what = 0; what <= 10; what++) {
            Check.due("one house: about(" + what + ")", x.about(what), want[what]);
        }
    }

    private static void greatestNumbers() {
        // Each is greatest here, but for what is undone: that is shown behind.
        OneWayTown x = Check.told(Edge.lane(14, 99, 99) + "cart p at a to b;cart q at b to c;cart r at c to d;cart s at d to e;draw 999;");
        for (int i = 0; i < 41; i++) {
            x.live(0, 99);
        }
        for (int i = 0; i < 41; i++) {
            x.distance(0, 1, 5);
        }
        for (int i = 0; i < 101; i++) {
            x.later(1000);
        }
        for (int i = 0; i < 61; i++) {
            x.feed(0, 0, 0, 0, 0);
        }
        x.way(0, 13);
        int[] want = {14, 1386, 1287, 4, 40, 0, 40, 100000, 1200, 14, 999};
        for (int what = 0; what <= 10; what++) {
            Check.due("about(" + what + ")", x.about(what), want[what]);
        }
        for (int i = 0; i < 41; i++) {
            x.undo();
        }
        Check.due("none can be undone", x.about(4), 0);
        Check.due("forty can be done again", x.about(5), 40);
        x.redo();
        Check.due("one can be undone", x.about(4), 1);
        Check.due("39 can be done again", x.about(5), 39);
        // Asking changes nothing.
        Edge.like("about()", () -> {
            OneWayTown y = Edge.busy();
            for (int what = -1; what <= 11; what++) {
                y.about(what);
            }
            return y;
        }, Edge::busy);
    }

    private static void otherWhats() {
        Check.says("Promise 44", "NONE for another what.");
        for (int what : Edge.outside(0, 10)) {
            Check.due("new: about(" + what + ")", new OneWayTown().about(what), -1);
            Check.due("busy: about(" + what + ")", Edge.busy().about(what), -1);
        }
    }

    private static void manyCalls() {
        Check.says("What it is", "An object is used for at most 512 calls after it has been made; what later calls answer is free.");
        // The 512th call answers as the first one would.
        OneWayTown x = new OneWayTown();
        for (int i = 0; i < 509; i++) {
            if (i % 2 == 0) {
                x.grown(2 + i % 13, 0);
            } else {
                x.undo();
            }
        }
        Check.due("call 510", x.grown(14, 0), true);
        Check.due("call 511", x.far(1), 2);
        Check.due("call 512", x.counted(2), 8205);
        OneWayTown asked = Check.told("house a;");
        for (int i = 0; i < 500; i++) {
            Check.due("call " + i, asked.live(0, i % 100), i == 0 ? 1 : (i - 1) % 100);
        }
        Check.due("forty kept of five hundred", asked.about(4), 40);
        Check.due("undone", asked.undo(), true);
        Check.due("people then", asked.house(0, 2), 98);
        OneWayTown aged = Check.told("house a;draw 999;");
        int seed = 999;
        for (int i = 0; i < 250; i++) {
            aged.years(50);
            for (int year = 0; year < 50; year++) {
                seed = (137 * seed + 71) % 1000;
            }
            Check.due("the seed of year " + 50 * i, aged.about(10), seed);
        }
        Check.due("fourteen houses", aged.about(0), 14);
    }
}
