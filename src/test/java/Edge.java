import java.util.ArrayList;
import java.util.Arrays;
import java.util.List;
import java.util.function.Supplier;
import java.util.function.ToLongFunction;
import java.util.stream.IntStream;

/** What the tests of boundary cases share. No object is called more than 512 times. */
final class Edge {
    /** Houses that no town has, and other numbers far off. */
    static final int[] FAR_OFF = {Integer.MIN_VALUE, Integer.MIN_VALUE + 1, -65536, -256, -2, -1, 14, 15, 16, 256, 65536,
        Integer.MAX_VALUE - 1, Integer.MAX_VALUE};

    private Edge() {
    }

    /** Numbers beyond both ends: the first ones, the last ones, and those that a narrower number would take for others. */
    static int[] outside(int least, int most) {
        int[] all = {Integer.MIN_VALUE, Integer.MIN_VALUE + 1, Integer.MIN_VALUE + least, Integer.MIN_VALUE + most, -1000000,
            least - 65536, least - 256, most - 256, least - 2, least - 1, most + 1, most + 2, least + 256, most + 256,
            least + 65536, most + 65536, 1000000000, Integer.MAX_VALUE - 1, Integer.MAX_VALUE};
        return Arrays.stream(all).filter(i -> i < least || i > most).distinct().toArray();
    }

    static String name(int house) {
        return String.valueOf((char) ('a' + house));
    }

    /** A town of houses in a row, all streets and people alike. */
    static String lane(int houses, int street, int people) {
        StringBuilder text = new StringBuilder();
        for (int i = 0; i < houses; i++) {
            text.append("house ").append(name(i));
            text.append(i == 0 ? "" : " at " + name(i - 1) + " street " + street);
            text.append(" people ").append(people).append(";");
        }
        return text.toString();
    }

    /** A town of houses that all hang at house 0. */
    static String star(int houses, int street, int people) {
        StringBuilder text = new StringBuilder();
        for (int i = 0; i < houses; i++) {
            text.append("house ").append(name(i));
            text.append(i == 0 ? "" : " at a street " + street);
            text.append(" people ").append(people).append(";");
        }
        return text.toString();
    }

    /** An object in which there is something of everything. */
    static OneWayTown busy() {
        OneWayTown x = Check.told("draw 17;house a people 3;house b at a street 4 people 0;house c at a street 99;"
                + "house d at c street 1 people 99;house e at c street 7 people 20;house f at e street 2;"
                + "cart u at a to f;cart v at f to b;");
        x.image(0);
        x.grow(5, 9, 8);
        x.live(0, 44);
        x.move(6, 1);
        x.years(2);
        x.image(2);
        x.live(2, 5);
        x.undo();
        x.undo();
        x.distance(0, 1, 5);
        x.later(3);
        x.distance(0, 2, 7);
        x.distance(2, 1, 13);
        x.distance(1, 2, 11);
        x.later(2);
        x.untell(3);
        x.later(6);
        Check.tape(x, "house z;draw 3; house");
        x.town();
        x.way(3, 5);
        return x;
    }

    /** What the calls that only ask tell of all that is there. */
    static List<Long> picture(OneWayTown x) {
        List<Long> all = town(x);
        for (int what = 0; what <= 10; what++) {
            all.add((long) x.about(what));
        }
        for (int i = 0; i < x.about(9); i++) {
            all.add((long) x.lies(i));
        }
        for (int box = 0; box < 3; box++) {
            all.add((long) x.alike(box, true));
        }
        for (int what = 0; what < 3; what++) {
            all.add((long) x.fault(what));
            all.add((long) x.carts(what));
        }
        for (int k = 0; k < 12; k += 2) {
            all.add((long) x.wrong(3, k));
            all.add((long) x.mended(3, 1, k));
        }
        return all;
    }

    /** The houses, the seed, and how long the ways are. */
    static List<Long> town(OneWayTown x) {
        List<Long> all = new ArrayList<>();
        all.add((long) x.about(0));
        all.add((long) x.about(10));
        for (int house = 0; house < x.about(0); house++) {
            for (int what = 0; what < 4; what++) {
                all.add((long) x.house(house, what));
            }
            all.add((long) x.far(house));
        }
        return all;
    }

    private static List<Long> undone(OneWayTown x) {
        List<Long> all = new ArrayList<>();
        for (int i = 0; i < 5 && x.undo(); i++) {
            all.addAll(town(x));
        }
        return all;
    }

    private static List<Long> redone(OneWayTown x) {
        List<Long> all = new ArrayList<>();
        for (int i = 0; i < 5 && x.redo(); i++) {
            all.addAll(town(x));
        }
        return all;
    }

    private static List<Long> kept(OneWayTown x) {
        List<Long> all = new ArrayList<>();
        for (int box = 0; box < 3; box++) {
            all.add((long) x.back(box));
            all.addAll(town(x));
        }
        return all;
    }

    private static List<Long> taped(OneWayTown x) {
        List<Long> all = new ArrayList<>();
        all.add((long) x.town());
        all.add((long) x.fault(0));
        all.add((long) x.fault(1));
        Check.tape(x, " a at z street 3;");
        all.add((long) x.town());
        all.addAll(town(x));
        return all;
    }

    /** Looks whether two objects answer alike, now and when they are gone on with. */
    static void like(String when, Supplier<OneWayTown> one, Supplier<OneWayTown> other) {
        same(when + ", all that is there", picture(one.get()), picture(other.get()));
        same(when + ", undone", undone(one.get()), undone(other.get()));
        same(when + ", done again", redone(one.get()), redone(other.get()));
        same(when + ", images", kept(one.get()), kept(other.get()));
        same(when + ", the tape", taped(one.get()), taped(other.get()));
    }

    private static void same(String when, List<Long> got, List<Long> want) {
        int place = 0;
        while (place < got.size() && place < want.size() && got.get(place).equals(want.get(place))) {
            place++;
        }
        boolean like = place == got.size() && place == want.size();
        Check.due(when + (like ? "" : ": " + got + " for " + want), like, true);
    }

    /** A refused call: what it answers, and that it does nothing. */
    static void refused(String call, Supplier<OneWayTown> make, ToLongFunction<OneWayTown> refuse, long want) {
        Check.due(call, refuse.applyAsLong(make.get()), want);
        like(call + " does nothing", () -> {
            OneWayTown x = make.get();
            refuse.applyAsLong(x);
            return x;
        }, make);
    }

    static long truth(boolean yes) {
        return yes ? 1 : 0;
    }

    static int[] upTo(int count) {
        return IntStream.range(0, count).toArray();
    }
}
