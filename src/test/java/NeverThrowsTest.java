import java.util.Random;

/**
 * Any calls, with any arguments, in any state: none may throw, and those that only ask may not
 * change what is asked next. The answers are looked at by the other tests.
 */
public final class NeverThrowsTest {
    private static final Random RANDOM = new Random(512);
    private static final int[] EDGES = {Integer.MIN_VALUE, Integer.MIN_VALUE + 1, -1000, -3, -2, -1, 0, 1, 2, 3, 4, 5, 6,
        7, 9, 10, 11, 13, 14, 15, 39, 40, 41, 49, 50, 51, 98, 99, 100, 998, 999, 1000, 1001, 1199, 1200, 1201, 19999,
        20000, 100000, 100001, Integer.MAX_VALUE - 1, Integer.MAX_VALUE};
    private static final String[] WORDS = {"house", "at", "street", "people", "cart", "to", "draw", ";", "a", "b", "c",
        "d", "1", "9", "100", "0", "?", "abcdefghi", "12345", " ", "\n", "5x", "house a;", "house b at a street 3;",
        "cart a at a to b;", "draw 5;"};

    public static void main(String[] args) {
        for (int run = 0; run < 1500; run++) {
            OneWayTown x = new OneWayTown();
            if (run % 3 == 1) {
                Model model = OracleTest.randomTown(1 + RANDOM.nextInt(14), run);
                OracleTest.addCarts(model);
                x = Check.told(model.text());
            }
            for (int call = 0; call < 500; call++) {
                any(x, RANDOM.nextInt(47));
            }
            Check.due("still a town", x.about(0) >= 0 && x.about(0) <= 14, true);
            Check.due("asking changes nothing", picture(x), picture(x));
        }
        Check.finish("NeverThrowsTest");
    }

    private static int some() {
        switch (RANDOM.nextInt(4)) {
            case 0:
                return EDGES[RANDOM.nextInt(EDGES.length)];
            case 1:
                return RANDOM.nextInt();
            default:
                return RANDOM.nextInt(15);
        }
    }

    private static void words(OneWayTown x) {
        StringBuilder text = new StringBuilder();
        for (int i = RANDOM.nextInt(12); i >= 0; i--) {
            text.append(WORDS[RANDOM.nextInt(WORDS.length)]).append(RANDOM.nextInt(3) == 0 ? "" : " ");
        }
        if (x.about(8) + text.length() + 20 <= 1200) {
            Check.tape(x, text.toString());
        }
    }

    private static void any(OneWayTown x, int which) {
        if (which < 16) {
            anyAct(x, which);
        } else if (which < 32) {
            anyQuestion(x, which);
        } else {
            anyOther(x, which);
        }
    }

    private static void anyAct(OneWayTown x, int which) {
        switch (which) {
            case 0: x.feed(some(), some(), some(), some(), some()); break;
            case 1: x.end(some()); break;
            case 2: if (RANDOM.nextInt(4) == 0) { x.town(); } break;
            case 3: x.fault(some()); break;
            case 4: words(x); break;
            case 5: x.grow(some(), some(), some()); break;
            case 6: x.move(some(), some()); break;
            case 7: x.live(some(), some()); break;
            case 8: x.years(some()); break;
            case 9: x.undo(); break;
            case 10: x.redo(); break;
            case 11: x.grown(some(), RANDOM.nextLong()); break;
            case 12: x.grown(some(), RANDOM.nextLong() & 0x111111111111L); break;
            case 13: x.image(some()); break;
            case 14: x.back(some()); break;
            default: x.later(some()); break;
        }
    }

    private static void anyQuestion(OneWayTown x, int which) {
        switch (which) {
            case 16: x.house(some(), some()); break;
            case 17: x.way(some(), some()); break;
            case 18: x.far(some()); break;
            case 19: x.farthest(some()); break;
            case 20: x.middle(some()); break;
            case 21: x.post(some(), RANDOM.nextBoolean()); break;
            case 22: x.wardens(some()); break;
            case 23: x.quiet(); break;
            case 24: x.guards(); break;
            case 25: x.news(some()); break;
            case 26: x.tidings(some()); break;
            case 27: x.wells(some()); break;
            case 28: x.shops(some()); break;
            case 29: x.counted(some()); break;
            case 30: x.quarters(some()); break;
            default: x.bestNews(); break;
        }
    }

    private static void anyOther(OneWayTown x, int which) {
        switch (which) {
            case 32: if (RANDOM.nextInt(20) == 0) { x.carts(some()); } break;
            case 33: x.alike(some(), RANDOM.nextBoolean()); break;
            case 34: x.selves(RANDOM.nextBoolean()); break;
            case 35: x.unlike(some()); break;
            case 36: x.marks(); break;
            case 37: x.tried(some(), RANDOM.nextInt(6) == 0 ? some() : RANDOM.nextInt(5)); break;
            case 38: x.joined(some(), some()); break;
            case 39: x.lies(some()); break;
            case 40: x.distance(some(), some(), some()); break;
            case 41: x.untell(some()); break;
            case 42: x.wrong(some(), some()); break;
            case 43: x.mended(some(), some(), some()); break;
            default: x.about(some()); break;
        }
    }

    /** A number made of what can be seen of the state. */
    private static long picture(OneWayTown x) {
        long sum = 0;
        for (int what = 0; what <= 10; what++) {
            sum = sum * 31 + (what == 9 ? 0 : x.about(what));
        }
        for (int house = 0; house < x.about(0); house++) {
            for (int what = 0; what < 4; what++) {
                sum = sum * 31 + x.house(house, what);
            }
            sum = sum * 31 + x.far(house) + x.news(house) + x.tidings(house) + x.quarters(house) + x.joined(house, 1);
        }
        sum = sum * 31 + x.wardens(3) + x.quiet() * 3L + x.guards() * 5L + x.wells(2) * 7L + x.shops(3) * 11L;
        for (int i = 0; i < 4; i++) {
            sum = sum * 31 + x.counted(i) + x.middle(i) + x.alike(i, true) + x.marks() + x.wrong(3, i);
        }
        return sum * 31 + x.carts(0) * 3L + x.selves(true) + x.mended(4, 1, 5) + x.fault(0) * 7L + x.fault(1);
    }
}
