/** Promise 44: about. */
public final class AboutTest {
    public static void main(String[] args) {
        OneWayTown x = Check.told("house a people 3;house b at a street 20 people 4;house c at b street 30;"
                + "cart x at a to b;cart y at b to c;draw 321;");
        x.grow(0, 5, 60);
        x.live(0, 1);
        x.live(0, 2);
        x.undo();
        x.distance(0, 1, 5);
        x.distance(0, 2, 5);
        x.distance(0, 3, 5);
        x.later(12);
        x.later(30);
        x.feed(0, 0, 0, 0, 0);
        x.end(17);
        x.way(2, 3);
        int[] want = {4, 66, 55, 2, 2, 1, 3, 42, 17, 4, 321};
        for (int what = 0; what < want.length; what++) {
            Check.due("about(" + what + ")", x.about(what), want[what]);
        }
        int[] bad = {-1, 11, Integer.MIN_VALUE, Integer.MAX_VALUE};
        for (int what : bad) {
            Check.due("about(" + what + ")", x.about(what), -1);
        }
        Check.finish("AboutTest");
    }
}
