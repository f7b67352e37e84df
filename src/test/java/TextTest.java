/** Promises 1 to 5: a new object, feed, end, town, fault; the text and its faults. */
public final class TextTest {
    public static void main(String[] args) {
        newObject();
        feeding();
        ending();
        reading();
        limits();
        tokens();
        misplaced();
        names();
        numbers();
        cartFaults();
        whatTownLeaves();
        whatFaultLeaves();
        Check.finish("TextTest");
    }

    private static void newObject() {
        OneWayTown x = new OneWayTown();
        for (int what = 0; what <= 10; what++) {
            Check.due("new: about(" + what + ")", x.about(what), 0);
        }
        Check.due("new: fault(0)", x.fault(0), 0);
        Check.due("new: fault(1)", x.fault(1), -1);
        Check.due("new: fault(2)", x.fault(2), -1);
        Check.due("new: fault(-1)", x.fault(-1), -1);
        Check.due("new: undo", x.undo(), false);
        Check.due("new: redo", x.redo(), false);
        Check.due("new: lies(0)", x.lies(0), -1);
        for (int box = 0; box < 3; box++) {
            Check.due("new: back", x.back(box), -1);
        }
        Check.due("NONE", OneWayTown.NONE, -1);
    }

    private static void feeding() {
        OneWayTown x = new OneWayTown();
        for (int i = 1; i <= 60; i++) {
            Check.due("feed " + i, x.feed(0x20202020, 0x20202020, 0x20202020, 0x20202020, 0x20202020), 20 * i);
        }
        Check.due("feed above 1,200", x.feed(1, 2, 3, 4, 5), -1);
        Check.due("tape is full", x.about(8), 1200);
        Check.due("a full tape of blanks", x.town(), 0);
        Check.due("tape is empty", x.about(8), 0);

        x = new OneWayTown();
        for (int i = 0; i < 60; i++) {
            x.feed(0, 0, 0, 0, 0);
        }
        x.end(1181);
        Check.due("feed would come to 1,201", x.feed(0, 0, 0, 0, 0), -1);
        Check.due("nothing came", x.about(8), 1181);
        x.end(1180);
        Check.due("feed comes to 1,200", x.feed(0, 0, 0, 0, 0), 1200);

        // The highest byte first: "hous" "e ab" ";   " ...
        x = new OneWayTown();
        x.feed(0x686f7573, 0x65206162, 0x3b686f75, 0x73652063, 0x20617420);
        x.feed(0x61622073, 0x74726565, 0x7420377e, 0, 0);
        Check.due("bytes in order", x.town(), -1);
        Check.due("the sign 126 is no token", x.fault(0), 1);
        Check.due("its place", x.fault(1), 31);
        x.end(31);
        x.feed(0x3b202020, 0x20202020, 0x20202020, 0x20202020, 0x20202020);
        Check.due("bytes in order", x.town(), 2);
        Check.due("street", x.house(1, 1), 7);
        // Bytes above 127 are no tokens, not signs of some other number.
        x.feed(0xe1e1e1e1, -1, -1, -1, -1);
        Check.due("high bytes", x.town(), -1);
        Check.due("high bytes", x.fault(0), 1);
        Check.due("high bytes", x.fault(1), 0);
    }

    private static void ending() {
        OneWayTown x = new OneWayTown();
        Check.due("end(0) of an empty tape", x.end(0), 0);
        Check.due("end(1) of an empty tape", x.end(1), -1);
        x.feed(1, 2, 3, 4, 5);
        Check.due("end(21)", x.end(21), -1);
        Check.due("end(-1)", x.end(-1), -1);
        Check.due("end(min)", x.end(Integer.MIN_VALUE), -1);
        Check.due("end(max)", x.end(Integer.MAX_VALUE), -1);
        Check.due("nothing done", x.about(8), 20);
        Check.due("end(20)", x.end(20), 20);
        Check.due("end(7)", x.end(7), 7);
        Check.due("seven left", x.about(8), 7);
        Check.due("end(8)", x.end(8), -1);
        Check.due("feed behind seven", x.feed(0, 0, 0, 0, 0), 27);
        Check.due("end(0)", x.end(0), 0);
        Check.due("none left", x.about(8), 0);
    }

    private static void reading() {
        OneWayTown x = Check.told("house a;");
        Check.due("one house", x.about(0), 1);
        Check.due("people 1 if not told", x.house(0, 2), 1);
        Check.due("draw 0 if not told", x.about(10), 0);
        Check.due("no fault", x.fault(0), 0);
        Check.due("no place", x.fault(1), -1);
        x = Check.told("draw 999;house a people 0;house b at a street 99 people 99;"
                + "house c at a street 1;cart a at b to a;");
        Check.due("houses", x.about(0), 3);
        Check.due("people 0", x.house(0, 2), 0);
        Check.due("hangs at", x.house(1, 0), 0);
        Check.due("street 99", x.house(1, 1), 99);
        Check.due("people 99", x.house(1, 2), 99);
        Check.due("street 1", x.house(2, 1), 1);
        Check.due("people 1", x.house(2, 2), 1);
        Check.due("carts", x.about(3), 1);
        Check.due("draw", x.about(10), 999);
        // Blanks where none are needed, none where they may be missing.
        x = Check.told("\n house\na\n;house b at a street\n12 people7 ; draw0007;");
        Check.due("houses", x.about(0), 2);
        Check.due("street", x.house(1, 1), 12);
        Check.due("people", x.house(1, 2), 7);
        Check.due("seed", x.about(10), 7);
        x = Check.told("draw 5;");
        Check.due("a town of no house", x.about(0), 0);
        Check.due("its seed", x.about(10), 5);
        x = Check.told("house abcdefgh;");
        Check.due("eight letters", x.about(0), 1);
        Check.fault("", 0, -1);
        Check.fault("  \n ", 0, -1);
    }

    private static String houses(int count) {
        StringBuilder text = new StringBuilder("house a;");
        for (int i = 1; i < count; i++) {
            text.append("house ").append((char) ('a' + i)).append(" at a street 1;");
        }
        return text.toString();
    }

    private static void limits() {
        Check.fault(houses(14), 0, -1);
        Check.due("14 houses", Check.told(houses(14)).about(0), 14);
        Check.fault(houses(15), 2, houses(14).length());
        Check.fault(houses(14) + "house", 2, houses(14).length());
        String four = houses(6) + "cart a at a to b;cart b at b to c;cart c at c to d;cart d at d to a;";
        Check.due("4 carts", Check.told(four).about(3), 4);
        Check.fault(four + "  cart e at e to f;", 2, four.length() + 2);
        Check.fault("draw 1;draw 1;", 2, 7);
        Check.fault("draw 1;draw", 2, 7);
        Check.fault(houses(14) + "draw 3;" + "cart z at a to b;", 0, -1);
    }

    private static void tokens() {
        Check.fault("?", 1, 0);
        Check.fault("house A;", 1, 6);
        Check.fault("house a,", 1, 7);
        Check.fault("house\ta;", 1, 5);
        Check.fault("house a;\r\n", 1, 8);
        Check.fault("house a-b;", 1, 7);
        Check.fault("house a people -1;", 1, 15);
        Check.fault("house a; \u00e9", 1, 9);
        // Nine letters, five digits, a letter directly behind a number: no tokens from their first sign on.
        Check.fault("house abcdefghi;", 1, 6);
        Check.fault("draw 12345;", 1, 5);
        Check.fault("draw 00000;", 1, 5);
        Check.fault("house a people 5x;", 1, 15);
        Check.fault("house a people 5 x;", 2, 17);
        Check.fault("draw 123456789012345678901234567890;", 1, 5);
        // A fault ahead of a place that has no token is first.
        Check.fault("house at ?", 2, 6);
        Check.fault("hous?", 2, 0);
        // Words are as long as can be.
        Check.fault("housea;", 2, 0);
        Check.fault("house a peopl 1;", 2, 8);
        Check.fault("house a peoples 1;", 2, 8);
    }

    private static void misplaced() {
        Check.fault("a", 2, 0);
        Check.fault(";", 2, 0);
        Check.fault("7", 2, 0);
        Check.fault("at", 2, 0);
        Check.fault("house", 2, 5);
        Check.fault("house   ", 2, 8);
        Check.fault("house 7;", 2, 6);
        Check.fault("house ;", 2, 6);
        String[] own = {"house", "at", "street", "people", "cart", "to", "draw"};
        for (String word : own) {
            Check.fault("house " + word + ";", 2, 6);
            Check.fault("house a;cart " + word + " at a to a;", 2, 13);
        }
        Check.fault("house a", 2, 7);
        Check.fault("house a b", 2, 8);
        Check.fault("house a at a street 1;", 2, 8);
        Check.fault("house a people;", 2, 14);
        Check.fault("house a people 1", 2, 16);
        Check.fault("house a people 1 people 1;", 2, 17);
        Check.fault("house a;house b;", 2, 15);
        Check.fault("house a;house b people 1;", 2, 16);
        Check.fault("house a;house b at;", 2, 18);
        Check.fault("house a;house b at 1;", 2, 19);
        Check.fault("house a;house b at a;", 2, 20);
        Check.fault("house a;house b at a people 1;", 2, 21);
        Check.fault("house a;house b at a street;", 2, 27);
        Check.fault("house a;house b at a street a;", 2, 28);
        Check.fault("house a;house b at a street 1 street 1;", 2, 30);
        Check.fault("house a;house b at a street 1 people 1 at a;", 2, 39);
        Check.fault("draw;", 2, 4);
        Check.fault("draw a;", 2, 5);
        Check.fault("draw 1 2;", 2, 7);
        Check.fault("draw 1", 2, 6);
        Check.fault("house a;;", 2, 8);
        Check.fault("house a;people 1;", 2, 8);
    }

    private static void names() {
        Check.fault("house a;house a at a street 1;", 3, 14);
        Check.fault("house ab;house b at ab street 1;house ab at b street 1;", 3, 38);
        Check.fault("house a;house b at c street 1;", 5, 19);
        Check.fault("house a;house b at b street 1;", 5, 19);
        Check.fault("house a;house b at ab street 1;", 5, 19);
        Check.fault("house abcdefgh;house abcdefgi at abcdefgh street 1;house abcdefg at abcdefgi street 1;", 0, -1);
        // A cart may have a house's name, and a house told later a cart's.
        Check.fault("house a;house b at a street 1;cart a at a to b;cart b at b to a;", 0, -1);
        Check.fault("house a;house b at a street 1;cart c at a to b;house c at a street 1;", 0, -1);
    }

    private static void numbers() {
        Check.fault("house a people 100;", 4, 15);
        Check.fault("house a people 0099;", 0, -1);
        Check.fault("house a people 9999;", 4, 15);
        Check.fault("house a;house b at a street 0;", 4, 28);
        Check.fault("house a;house b at a street 100;", 4, 28);
        Check.fault("house a;house b at a street 1 people 100;", 4, 37);
        Check.fault("draw 1000;", 4, 5);
        Check.fault("draw 999;", 0, -1);
        Check.fault("draw 0;", 0, -1);
    }

    private static void cartFaults() {
        String three = "house a;house b at a street 1;house c at b street 1;";
        int k = three.length();
        Check.fault(three + "cart;", 2, k + 4);
        Check.fault(three + "cart x;", 2, k + 6);
        Check.fault(three + "cart x to a;", 2, k + 7);
        Check.fault(three + "cart x at;", 2, k + 9);
        Check.fault(three + "cart x at a;", 2, k + 11);
        Check.fault(three + "cart x at a at b;", 2, k + 12);
        Check.fault(three + "cart x at a to;", 2, k + 14);
        Check.fault(three + "cart x at a to 5;", 2, k + 15);
        Check.fault(three + "cart x at a to b", 2, k + 16);
        Check.fault(three + "cart x at d to b;", 5, k + 10);
        Check.fault(three + "cart x at a to d;", 5, k + 15);
        Check.fault(three + "cart x at a to a;", 3, k + 15);
        Check.fault("cart x at a to b;", 5, 10);
        Check.fault("house a;cart x at a to b;house b at a street 1;", 5, 23);
        String one = three + "cart x at a to b;";
        int l = one.length();
        Check.fault(one + "cart x at b to a;", 3, l + 5);
        Check.fault(one + "cart y at a to c;", 3, l + 10);
        Check.fault(one + "cart y at c to b;", 3, l + 15);
        Check.fault(one + "cart y at b to b;", 3, l + 15);
        Check.fault(one + "cart y at b to a;", 0, -1);
    }

    private static void whatTownLeaves() {
        OneWayTown x = Check.told("house a;house b at a street 4;draw 3;");
        x.grow(0, 5, 5);
        x.grow(0, 5, 5);
        x.undo();
        x.way(0, 1);
        x.distance(0, 1, 5);
        x.later(77);
        x.image(0);
        x.image(1);
        x.image(2);
        Check.tape(x, "house q;");
        Check.due("town()", x.town(), 1);
        int[] want = {1, 1, 0, 0, 0, 0, 0, 77, 0, 0, 0};
        for (int what = 0; what < want.length; what++) {
            Check.due("behind town(): about(" + what + ")", x.about(what), want[what]);
        }
        for (int box = 0; box < 3; box++) {
            Check.due("boxes are empty", x.back(box), -1);
            Check.due("boxes are empty", x.alike(box, false), -1);
        }
        Check.due("no act", x.undo(), false);
        Check.due("none to do again", x.redo(), false);
        Check.due("an empty tape is an empty town", x.town(), 0);
        Check.due("houses", x.about(0), 0);
    }

    private static void whatFaultLeaves() {
        OneWayTown x = Check.told("house a;house b at a street 4;cart c at a to b;draw 3;");
        x.grow(0, 5, 5);
        x.grow(0, 5, 5);
        x.undo();
        x.way(0, 1);
        x.distance(0, 1, 5);
        x.later(77);
        x.image(1);
        Check.tape(x, "house q;draw 5;house");
        Check.due("town()", x.town(), -1);
        int[] want = {3, 7, 9, 1, 1, 1, 1, 77, 20, 2, 3};
        for (int what = 0; what < want.length; what++) {
            Check.due("behind a fault: about(" + what + ")", x.about(what), want[what]);
        }
        Check.due("boxes stay", x.back(1), 3);
        Check.due("fault", x.fault(0), 2);
        Check.due("place", x.fault(1), 20);
        Check.due("another what", x.fault(2), -1);
        x.end(15);
        Check.due("the tape stayed", x.town(), 1);
        Check.due("its seed", x.about(10), 5);
        Check.due("no fault any more", x.fault(0), 0);
        Check.due("no place any more", x.fault(1), -1);
    }
}
