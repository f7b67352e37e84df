import java.util.LinkedHashMap;
import java.util.Map;
import java.util.function.ToLongFunction;

/**
 * All calls that ask, on towns of no house, of one and of two; and that asking, whether it is
 * answered or refused, leaves all as it is but what lies there.
 */
public final class EdgeAskingTest {
    public static void main(String[] args) {
        smallTowns();
        askingLeavesAll();
        layingLeavesTheRest();
        Check.finish("EdgeAskingTest");
    }

    private static final Map<String, ToLongFunction<OneWayTown>> CALLS = new LinkedHashMap<>();

    private static void call(String name, ToLongFunction<OneWayTown> ask) {
        CALLS.put(name, ask);
    }

    /** A call's answers without houses, with one, with two. */
    private static void row(String name, ToLongFunction<OneWayTown> ask, long none, long one, long two) {
        call(name, ask);
        Check.due(name + " of a new object", ask.applyAsLong(new OneWayTown()), none);
        Check.due(name + " of no houses told", ask.applyAsLong(Check.told(" \n ")), none);
        Check.due(name + " of one house", ask.applyAsLong(Check.told("house a people 6;")), one);
        Check.due(name + " of two houses", ask.applyAsLong(Check.told("house a people 6;house b at a street 5 people 7;")), two);
    }

    private static void smallTowns() {
        row("house(0, 0)", x -> x.house(0, 0), -2, -1, -1);
        row("house(0, 1)", x -> x.house(0, 1), -2, 0, 0);
        row("house(0, 2)", x -> x.house(0, 2), -2, 6, 6);
        row("house(0, 3)", x -> x.house(0, 3), -2, 0, 1);
        row("house(1, 0)", x -> x.house(1, 0), -2, -2, 0);
        row("house(1, 1)", x -> x.house(1, 1), -2, -2, 5);
        row("house(2, 0)", x -> x.house(2, 0), -2, -2, -2);
        row("far(0)", x -> x.far(0), -1, 0, 5);
        row("far(1)", x -> x.far(1), -1, -1, 5);
        row("farthest(0)", x -> x.farthest(0), -1, -1, 0);
        row("farthest(1)", x -> x.farthest(1), -1, -1, 1);
        row("farthest(2)", x -> x.farthest(2), -1, -1, 5);
        row("middle(0)", x -> x.middle(0), -1, 0, 0);
        row("middle(1)", x -> x.middle(1), -1, 0, 1);
        row("middle(2)", x -> x.middle(2), -1, 0, 1);
        row("post(0, true)", x -> x.post(0, true), -1, 0, 10);
        row("post(0, false)", x -> x.post(0, false), -1, 0, 5);
        row("wardens(0)", x -> x.wardens(0), 0, 1, 3);
        row("wardens(5)", x -> x.wardens(5), 0, 1, 1);
        row("quiet()", x -> x.quiet(), 0, 1, 2);
        row("guards()", x -> x.guards(), 0, 0, 1);
        row("news(0)", x -> x.news(0), -1, 0, 1);
        row("tidings(0)", x -> x.tidings(0), -1, 0, 5);
        row("counted(0)", x -> x.counted(0), 1, 2, 3);
        row("counted(1)", x -> x.counted(1), 1, 2, 3);
        row("counted(2)", x -> x.counted(2), 0, 1, 3);
        row("counted(3)", x -> x.counted(3), 1, 1, 2);
        row("bestNews()", x -> x.bestNews(), -1, 0, 0);
        row("carts(0)", x -> x.carts(0), 0, 0, 0);
        row("carts(1)", x -> x.carts(1), -1, -1, -1);
        row("carts(2)", x -> x.carts(2), -1, -1, -1);
        row("alike(0, true)", x -> x.alike(0, true), -1, -1, -1);
        row("selves(true)", x -> x.selves(true), 1, 1, 2);
        row("selves(false)", x -> x.selves(false), 1, 1, 2);
        row("unlike(2)", x -> x.unlike(2), 1, 1, 1);
        row("tried(0, 2)", x -> x.tried(0, 2), 0, 0, 0);
        row("joined(0, 0)", x -> x.joined(0, 0), -1, -1, -1);
        row("joined(1, 0)", x -> x.joined(1, 0), -1, -1, 5);
        row("joined(1, 1)", x -> x.joined(1, 1), -1, -1, 1);
        row("joined(1, 2)", x -> x.joined(1, 2), -1, -1, 0);
        row("lies(0)", x -> x.lies(0), -1, -1, -1);
        row("wrong(2, 0)", x -> x.wrong(2, 0), -2, -2, -2);
        row("mended(2, 0, 0)", x -> x.mended(2, 0, 0), -2, -2, -2);
        row("fault(0)", x -> x.fault(0), 0, 0, 0);
        row("fault(1)", x -> x.fault(1), -1, -1, -1);
        row("about(0)", x -> x.about(0), 0, 1, 2);
        row("about(1)", x -> x.about(1), 0, 6, 13);
        row("about(2)", x -> x.about(2), 0, 0, 5);
    }

    private static void askingLeavesAll() {
        for (int wrong : new int[] {-1, 14, Integer.MIN_VALUE, Integer.MAX_VALUE}) {
            call("house(" + wrong + ", 0)", x -> x.house(wrong, 0));
            call("house(0, " + wrong + ")", x -> x.house(0, wrong));
            call("far(" + wrong + ")", x -> x.far(wrong));
            call("farthest(" + wrong + ")", x -> x.farthest(wrong));
            call("middle(" + wrong + ")", x -> x.middle(wrong));
            call("post(" + wrong + ", true)", x -> x.post(wrong, true));
            call("news(" + wrong + ")", x -> x.news(wrong));
            call("tidings(" + wrong + ")", x -> x.tidings(wrong));
            call("counted(" + wrong + ")", x -> x.counted(wrong));
            call("carts(" + wrong + ")", x -> x.carts(wrong));
            call("alike(" + wrong + ", false)", x -> x.alike(wrong, false));
            call("tried(" + wrong + ", 3)", x -> x.tried(wrong, 3));
            call("tried(1, " + wrong + ")", x -> x.tried(1, wrong));
            call("joined(" + wrong + ", 0)", x -> x.joined(wrong, 0));
            call("joined(2, " + wrong + ")", x -> x.joined(2, wrong));
            call("lies(" + wrong + ")", x -> x.lies(wrong));
            call("wrong(" + wrong + ", 3)", x -> x.wrong(wrong, 3));
            call("mended(" + wrong + ", 0, 3)", x -> x.mended(wrong, 0, 3));
            call("fault(" + wrong + ")", x -> x.fault(wrong));
            call("about(" + wrong + ")", x -> x.about(wrong));
        }
        call("wardens(-1)", x -> x.wardens(-1));
        call("wardens(999)", x -> x.wardens(999));
        call("unlike(14)", x -> x.unlike(14));
        call("unlike(15)", x -> x.unlike(15));
        call("tried(2, 6)", x -> x.tried(2, 6));
        call("wrong(3, 6)", x -> x.wrong(3, 6));
        call("mended(3, 1, 6)", x -> x.mended(3, 1, 6));
        CALLS.forEach((name, ask) -> {
            long first = ask.applyAsLong(Edge.busy());
            Edge.refused(name + " of a busy object", Edge::busy, ask, first);
            OneWayTown x = Edge.busy();
            ask.applyAsLong(x);
            Check.due(name + " asked again", ask.applyAsLong(x), first);
        });
    }

    private static void layingLeavesTheRest() {
        CALLS.clear();
        call("way(0, 6)", x -> x.way(0, 6));
        call("way(0, 7)", x -> x.way(0, 7));
        call("quarters(2)", x -> x.quarters(2));
        call("quarters(-1)", x -> x.quarters(-1));
        call("wells(4)", x -> x.wells(4));
        call("wells(5)", x -> x.wells(5));
        call("shops(4)", x -> x.shops(4));
        call("shops(0)", x -> x.shops(0));
        call("marks()", x -> x.marks());
        CALLS.forEach((name, lay) -> Edge.like(name, () -> {
            OneWayTown x = Edge.busy();
            lay.applyAsLong(x);
            x.way(3, 5);
            return x;
        }, Edge::busy));
    }
}
