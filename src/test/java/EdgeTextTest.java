import java.util.function.Supplier;

/** The boundary cases of the text: part 1 of the terms, promises 1 to 5. */
public final class EdgeTextTest {
    private static final String[] OWN_WORDS = {"house", "at", "street", "people", "cart", "to", "draw"};
    private static final String TWO = "house a;house b at a street 1;";

    public static void main(String[] args) {
        longestText();
        lines();
        words();
        digits();
        theSign();
        blanks();
        asLongAsCanBe();
        letterBehindNumber();
        ownWords();
        fourteenHouses();
        atOrNot();
        streetLengths();
        peopleNumbers();
        fourCarts();
        oneDraw();
        firstByPlace();
        leastAtOnePlace();
        faultOne();
        faultTwo();
        faultThree();
        faultFour();
        faultFive();
        newObject();
        feedBehind();
        feedFull();
        endCuts();
        endRefused();
        townEmptiesTape();
        townClears();
        townCounts();
        townFault();
        faultOfLatest();
        faultOther();
        Check.finish("EdgeTextTest");
    }

    private static String blanksTo(String text, int length, String end) {
        return text + " ".repeat(length - text.length() - end.length()) + end;
    }

    private static void longestText() {
        Check.says("Terms 1", "A TOWN is a text of at most 1,200 bytes (empty at first): town = {line}.");
        Check.due("empty at first", new OneWayTown().about(0), 0);
        Check.due("a text of no bytes", new OneWayTown().town(), 0);
        String full = blanksTo(Edge.star(14, 99, 99), 1200, "draw 999;");
        OneWayTown x = Check.told(full);
        Check.due("1,200 bytes: houses", x.about(0), 14);
        Check.due("1,200 bytes: the last line counts", x.about(10), 999);
        Check.due("1,200 bytes: no fault", x.fault(0), 0);
        Check.fault(blanksTo("", 1200, "?"), 1, 1199);
        Check.fault(blanksTo("", 1200, "draw"), 2, 1200);
        Check.fault(blanksTo("", 1200, "draw 9"), 2, 1200);
        Check.fault(blanksTo("", 1200, ""), 0, -1);
        Check.fault(blanksTo("", 1199, "draw 9"), 2, 1199);
        StringBuilder longNames = new StringBuilder("house aaaaaaaa people 0099;");
        for (int i = 1; i < 14; i++) {
            longNames.append("house aaaaaaa").append(Edge.name(i)).append(" at aaaaaaaa street 0099 people 0099;");
        }
        longNames.append("cart aaaaaaaa at aaaaaaaa to aaaaaaab;draw 0999;");
        Check.due("the longest lines", Check.told(longNames.toString()).about(0), 14);
    }

    private static void lines() {
        Check.says("Terms 1", "line = house NAME [at NAME street N] [people N] ; | cart NAME at NAME to NAME ; | draw N ;.");
        Check.due("house NAME ;", Check.told("house a;").about(0), 1);
        Check.due("house NAME people N ;", Check.told("house a people 5;").house(0, 2), 5);
        OneWayTown x = Check.told("draw 8;house a;house b at a street 7;cart c at b to a;"
                + "house c at b street 6 people 4;cart a at a to c;");
        Check.due("at NAME street N", x.house(1, 1), 7);
        Check.due("at NAME street N people N", x.house(2, 2), 4);
        Check.due("lines of all sorts in any order", x.about(3), 2);
        Check.due("draw ahead of all", x.about(10), 8);
        // What may be left out is left out whole, and stands in its place.
        Check.fault("house a;house b at a people 1;", 2, 21);
        Check.fault("house a;house b people 1 at a street 1;", 2, 16);
        Check.fault("house a;house b at a street 1 people;", 2, 36);
        Check.fault("house a;house b street 1;", 2, 16);
        Check.fault(TWO + "cart c to a at b;", 2, 37);
        Check.fault(TWO + "cart c at a;", 2, 41);
        Check.fault("draw;", 2, 4);
        Check.fault("house a", 2, 7);
        Check.fault("draw 1", 2, 6);
        Check.fault(TWO + "cart c at a to b", 2, 46);
    }

    private static void words() {
        Check.says("Terms 1", "words (a .. z, 8 at most)");
        Check.fault("house a;house z at a street 1;house azazazaz at z street 1;", 0, -1);
        Check.fault("house abcdefgh;", 0, -1);
        Check.fault("house abcdefghi;", 1, 6);
        Check.fault("house abcdefghijklmnopqrstuvwxyz;", 1, 6);
        Check.fault("house a;house b at abcdefghi street 1;", 1, 19);
        Check.fault(TWO + "cart abcdefghi at a to b;", 1, 35);
        Check.fault("abcdefghi", 1, 0);
        Check.fault("abcdefgh", 2, 0);
        int[] none = {'a' - 1, 'z' + 1, 'A', 'Z', '@', '[', 'a' + 128, 'z' + 128, 127, 128, 255, 0};
        for (int sign : none) {
            Check.fault("house " + (char) sign + ";", 1, 6);
            Check.fault("house a" + (char) sign + ";", 1, 7);
        }
        // All eight letters tell names apart.
        Check.fault("house abcdefgh;house abcdefgi at abcdefgh street 1;house bbcdefgh at abcdefgi street 1;"
                + "house abcdefg at bbcdefgh street 1;", 0, -1);
        OneWayTown x = Check.told("house aaaaaaaa;house aaaaaaa at aaaaaaaa street 2;house aaaaaa at aaaaaaa street 3;"
                + "house baaaaaaa at aaaaaaaa street 4;");
        Check.due("a name of seven letters", x.house(2, 0), 1);
        Check.due("a name of eight letters", x.house(3, 0), 0);
        for (char one = 'a'; one <= 'z'; one++) {
            for (char other = 'a'; other <= 'z'; other++) {
                if (other != one) {
                    Check.fault("house " + one + ";house " + other + " at " + one + " street 1;", 0, -1);
                }
                String two = "" + one + other;
                if (!two.equals("at") && !two.equals("to")) {
                    Check.fault("house " + two + ";house q at " + two + " street 1;house p at q street 1;", 0, -1);
                }
            }
        }
    }

    private static void digits() {
        Check.says("Terms 1", "N (1 to 4 digits)");
        Check.due("one digit", Check.told("draw 7;").about(10), 7);
        Check.due("four digits", Check.told("draw 0987;").about(10), 987);
        Check.due("four digits", Check.told("draw 0000;").about(10), 0);
        Check.due("two digits", Check.told("draw 65;").about(10), 65);
        Check.fault("draw 00000;", 1, 5);
        Check.fault("draw 00007;", 1, 5);
        Check.fault("draw 12345;", 1, 5);
        Check.fault("draw 4294967297;", 1, 5);
        Check.fault("draw 18446744073709551617;", 1, 5);
        Check.fault("house a people 00001;", 1, 15);
        Check.fault("house a;house b at a street 00001;", 1, 28);
        Check.fault("12345", 1, 0);
        Check.fault("1234", 2, 0);
        int[] none = {'0' - 1, '9' + 1, '-', '+', '.', '0' + 128};
        for (int sign : none) {
            Check.fault("draw " + (char) sign + ";", 1, 5);
            Check.fault("draw 1" + (char) sign + ";", 1, 6);
        }
    }

    private static void theSign() {
        Check.says("Terms 1", "the sign ;");
        Check.fault("house a;", 0, -1);
        int[] none = {';' - 1, ';' + 1, ',', ';' + 128, '(', '"'};
        for (int sign : none) {
            Check.fault("house a" + (char) sign, 1, 7);
        }
        Check.fault("house a;;", 2, 8);
        Check.fault(";", 2, 0);
    }

    private static void blanks() {
        Check.says("Terms 1", "blanks (32, 10) part them or not");
        Check.fault("\n \n\n  house\na \n people  7\n;\n", 0, -1);
        Check.fault("house a;house b at a street9;cart x at a to b;draw1;", 0, -1);
        Check.due("none where they may be missing", Check.told("house a people7;draw8;").house(0, 2), 7);
        int[] none = {0, 1, 9, 11, 12, 13, 31, 33, 32 + 128, 10 + 128};
        for (int sign : none) {
            Check.fault("house" + (char) sign + "a;", 1, 5);
            Check.fault("house a;" + (char) sign, 1, 8);
            Check.fault((char) sign + "house a;", 1, 0);
        }
    }

    private static void asLongAsCanBe() {
        Check.says("Terms 1", "each is as long as can be");
        Check.fault("housea;", 2, 0);
        Check.fault("house apeople 3;", 2, 14);
        Check.fault("house a;house bat a street 1;", 2, 18);
        Check.fault("drawn 3;", 2, 0);
        Check.fault("draw 1 2;", 2, 7);
        Check.due("not parted in digits", Check.told("draw 12;").about(10), 12);
        Check.due("a word that begins as another one", Check.told("house houses;house att at houses street 1;").about(0), 2);
    }

    private static void letterBehindNumber() {
        Check.says("Terms 1", "no letter directly behind an N.");
        Check.fault("draw 5a;", 1, 5);
        Check.fault("draw 5z", 1, 5);
        Check.fault("draw 1234a;", 1, 5);
        Check.fault("draw 5 a;", 2, 7);
        Check.fault("draw 5\na;", 2, 7);
        Check.fault("house a;house b at a street 3people 4;", 1, 28);
        Check.fault("house a;house b at a street 3 people 4;", 0, -1);
        Check.fault("draw 5;house a;", 0, -1);
        Check.fault("draw 5", 2, 6);
    }

    private static void ownWords() {
        Check.says("Terms 1", "Words that stand for themselves here are no NAMES.");
        for (String word : OWN_WORDS) {
            Check.fault("house " + word + ";", 2, 6);
            Check.fault("house a;house " + word + " at a street 1;", 2, 14);
            Check.fault("house a;house b at " + word + " street 1;", 2, 19);
            Check.fault(TWO + "cart " + word + " at a to b;", 2, 35);
            Check.fault(TWO + "cart c at " + word + " to b;", 2, 40);
            Check.fault(TWO + "cart c at a to " + word + ";", 2, 45);
            Check.fault("house " + word + "s;", 0, -1);
            Check.fault("house x" + word + ";", 0, -1);
            Check.fault("house " + word.substring(1) + ";", 0, -1);
        }
        // One letter another one, and it is a name.
        for (String word : OWN_WORDS) {
            for (int place = 0; place < word.length(); place++) {
                char other = word.charAt(place) == 'x' ? 'y' : 'x';
                Check.fault("house " + word.substring(0, place) + other + word.substring(place + 1) + ";", 0, -1);
            }
        }
        Check.fault("house line;house town at line street 1;house name at town street 1;house n at name street 1;", 0, -1);
    }

    private static void fourteenHouses() {
        Check.says("Terms 1", "At most 14 HOUSES, numbered as told");
        String fourteen = Edge.lane(14, 1, 1);
        Check.due("fourteen", Check.told(fourteen).about(0), 14);
        Check.fault(fourteen + "house o at a street 1;", 2, fourteen.length());
        Check.fault(fourteen + "house", 2, fourteen.length());
        Check.fault(fourteen + "house a at a street 1;", 2, fourteen.length());
        Check.fault(fourteen + "\n house ?", 2, fourteen.length() + 2);
        OneWayTown x = Check.told("house z;house y at z street 5;house a at y street 6;house x at z street 7;");
        int[] lengths = {0, 5, 6, 7};
        for (int house = 0; house < 4; house++) {
            Check.due("numbered as told, not by names", x.house(house, 1), lengths[house]);
        }
        Check.due("what the last hangs at", x.house(3, 0), 0);
    }

    private static void atOrNot() {
        Check.says("Terms 1", "the first without at, all others with it: a HOUSE told ahead");
        Check.fault("house a at a street 1;", 2, 8);
        Check.fault("house a at", 2, 8);
        Check.fault("house a;house b;", 2, 15);
        Check.fault("house a;house b people 3;", 2, 16);
        Check.fault("house a;house b", 2, 15);
        Check.fault("house a;house b at b street 1;", 5, 19);
        Check.fault("house a;house b at c street 1;house c at a street 1;", 5, 19);
        String thirteen = Edge.lane(13, 1, 1);
        Check.due("at the one ahead", Check.told(thirteen + "house n at m street 1;").house(13, 0), 12);
        Check.due("at the first", Check.told(thirteen + "house n at a street 1;").house(13, 0), 0);
        Check.fault("draw 3;house a at a street 1;", 2, 15);
    }

    private static void streetLengths() {
        Check.says("Terms 1", "street 1 .. 99 long");
        Check.due("1", Check.told("house a;house b at a street 1;").house(1, 1), 1);
        Check.due("99", Check.told("house a;house b at a street 99;").house(1, 1), 99);
        Check.due("0099", Check.told("house a;house b at a street 0099;").house(1, 1), 99);
        Check.fault("house a;house b at a street 0;", 4, 28);
        Check.fault("house a;house b at a street 0000;", 4, 28);
        Check.fault("house a;house b at a street 100;", 4, 28);
        Check.fault("house a;house b at a street 9999;", 4, 28);
        Check.fault("house a;house b at a street 257;", 4, 28);
    }

    private static void peopleNumbers() {
        Check.says("Terms 1", "people 0 .. 99, 1 if not told");
        OneWayTown x = Check.told("house a;house b at a street 1;house c at a street 1 people 0;house d at a street 1 people 99;");
        int[] people = {1, 1, 0, 99};
        for (int house = 0; house < 4; house++) {
            Check.due("people of " + house, x.house(house, 2), people[house]);
        }
        Check.due("0 in the first", Check.told("house a people 0;").house(0, 2), 0);
        Check.due("99 in the first", Check.told("house a people 99;").house(0, 2), 99);
        Check.fault("house a people 100;", 4, 15);
        Check.fault("house a people 9999;", 4, 15);
        Check.fault("house a people 256;", 4, 15);
        Check.fault("house a;house b at a street 1 people 100;", 4, 37);
    }

    private static void fourCarts() {
        Check.says("Terms 1", "4 CARTS (of their own NAMES, each at a HOUSE told ahead, to another HOUSE told ahead; "
                + "no two at one, no two to one)");
        String houses = Edge.star(6, 1, 1);
        String four = houses + "cart a at a to b;cart b at b to c;cart c at c to d;cart d at d to a;";
        Check.due("four", Check.told(four).about(3), 4);
        Check.fault(four + "cart e at e to f;", 2, four.length());
        Check.fault(four + "cart", 2, four.length());
        Check.fault(four + "cart a at a to a;", 2, four.length());
        Check.due("none", Check.told(houses).about(3), 0);
        Check.fault(houses + "cart a at a to b;cart b at b to a;", 0, -1);
        int k = houses.length();
        Check.fault(houses + "cart a at a to b;cart a at b to a;", 3, k + 22);
        Check.fault("house a;cart c at b to a;house b at a street 1;", 5, 18);
        Check.fault("house a;cart c at a to b;house b at a street 1;", 5, 23);
        Check.fault(houses + "cart a at a to a;", 3, k + 15);
        Check.fault(houses + "cart a at b to c;cart b at b to d;", 3, k + 27);
        Check.fault(houses + "cart a at b to c;cart b at d to c;", 3, k + 32);
        Check.fault(houses + "cart a at a to b;cart b at b to c;cart c at c to d;cart d at a to e;", 3, k + 61);
        Check.fault(houses + "cart a at a to b;cart b at b to c;cart c at c to d;cart d at e to d;", 3, k + 66);
        Check.fault("cart a at a to b;", 5, 10);
    }

    private static void oneDraw() {
        Check.says("Terms 1", "draw (0 .. 999; 0) once.");
        Check.due("not told", Check.told("house a;").about(10), 0);
        Check.due("0", Check.told("draw 0;").about(10), 0);
        Check.due("999", Check.told("draw 999;").about(10), 999);
        Check.fault("draw 1000;", 4, 5);
        Check.fault("draw 9999;", 4, 5);
        Check.fault("draw 0;draw 0;", 2, 7);
        Check.fault("draw 5;house a;draw 5;", 2, 15);
        Check.fault("draw 5;draw", 2, 7);
        OneWayTown x = Check.told("draw 77;");
        Check.due("not told, behind another town", x.town(), 0);
        Check.due("its seed", x.about(10), 0);
    }

    private static void firstByPlace() {
        Check.says("Terms 1", "FAULTS, the first by its place (bytes from 0; the end: the text's length)");
        Check.fault("?", 1, 0);
        Check.fault("  ?", 1, 2);
        Check.fault("draw ? ?", 1, 5);
        Check.fault("draw 1000; ?", 4, 5);
        Check.fault("house a people 100;draw 5;draw 5;?", 4, 15);
        Check.fault("house a;house a at q street 0 people 100;", 3, 14);
        Check.fault("house a;house b at q street 0 people 100;", 5, 19);
        Check.fault("house a;house b at a street 0 people 100;", 4, 28);
        Check.fault("house a;house b at a street 1 people 100 ?", 4, 37);
        Check.fault(TWO + "cart c at q to q;", 5, 40);
        Check.fault(TWO + "cart c at a to a ?", 3, 45);
        Check.fault("house", 2, 5);
        Check.fault("house \n\n ", 2, 9);
        Check.fault("house a people", 2, 14);
        Check.fault("house a people 1 ", 2, 17);
        Check.fault("house a;cart", 2, 12);
    }

    private static void leastAtOnePlace() {
        Check.says("Terms 1", "at one place the least");
        // What is no token can't stand there either: 1, not 2.
        Check.fault("A", 1, 0);
        Check.fault("house 5x;", 1, 6);
        Check.fault("house a abcdefghi;", 1, 8);
        Check.fault("house a 12345;", 1, 8);
        // A number where none can stand: 2, not 4.
        Check.fault("house a 9999;", 2, 8);
        Check.fault("house 9999;", 2, 6);
        // A name where none can stand: 2, not 3 or 5.
        Check.fault("house a;a", 2, 8);
        Check.fault("house a a;", 2, 8);
        Check.fault("house a q;", 2, 8);
        Check.fault("draw a;", 2, 5);
    }

    private static void faultOne() {
        Check.says("Terms 1", "1 no TOKEN");
        for (int sign = 0; sign < 256; sign++) {
            boolean token = sign >= 'a' && sign <= 'z' || sign >= '0' && sign <= '9' || sign == ';' || sign == 32 || sign == 10;
            Check.fault("house a;  " + (char) sign, sign == 32 || sign == 10 ? 0 : token ? 2 : 1,
                    sign == 32 || sign == 10 ? -1 : 10);
        }
    }

    private static void faultTwo() {
        Check.says("Terms 1", "2 one that can't stand there (one of a sort too many or a second time: at the line's first word)");
        for (String word : OWN_WORDS) {
            boolean begins = word.equals("house") || word.equals("cart") || word.equals("draw");
            Check.fault("house a;" + word, 2, begins ? 8 + word.length() : 8);
            Check.fault("house a " + (word.equals("people") ? "at" : word), 2, 8);
        }
        Check.fault("house a people 1 people 1;", 2, 17);
        Check.fault("house a;house b at a at a street 1;", 2, 21);
        Check.fault("house a;house b at a street 1 street 1;", 2, 30);
        Check.fault("house a;house b at a street 1 2;", 2, 30);
        Check.fault("house a b;", 2, 8);
        Check.fault(TWO + "cart c at a to b b;", 2, 47);
        Check.fault(Edge.lane(14, 1, 1) + " house z at a street 1;", 2, Edge.lane(14, 1, 1).length() + 1);
        Check.fault("draw 1; draw 1000;", 2, 8);
    }

    private static void faultThree() {
        Check.says("Terms 1", "3 a NAME told already (of its sort), a CART's HOUSE that another one is at (behind at), "
                + "goes to (behind to), the same one behind to");
        Check.fault("house a;house a at a street 1;", 3, 14);
        String fourteen = Edge.lane(13, 1, 1);
        Check.fault(fourteen + "house m at a street 1;", 3, fourteen.length() + 6);
        Check.fault(fourteen + "house a at a street 1;", 3, fourteen.length() + 6);
        String three = Edge.star(3, 1, 1) + "cart x at a to b;";
        int k = three.length();
        Check.fault(three + "cart x at b to c;", 3, k + 5);
        Check.fault(three + "cart y at a to c;", 3, k + 10);
        Check.fault(three + "cart y at c to b;", 3, k + 15);
        Check.fault(three + "cart y at b to b;", 3, k + 15);
        Check.fault(three + "cart y at c to c;", 3, k + 15);
        // One may be where another goes, go where another is, and bear a house's name.
        Check.fault(three + "cart a at b to a;", 0, -1);
        Check.fault(three + "house x at a street 1;", 0, -1);
    }

    private static void faultFour() {
        Check.says("Terms 1", "4 a number that can't be");
        int[] streets = {0, 1, 99, 100, 999, 9999};
        int[] people = {0, 1, 99, 100, 999, 9999};
        int[] draws = {0, 1, 998, 999, 1000, 9999};
        for (int i = 0; i < 6; i++) {
            boolean street = streets[i] >= 1 && streets[i] <= 99;
            Check.fault("house a;house b at a street " + streets[i] + ";", street ? 0 : 4, street ? -1 : 28);
            boolean live = people[i] <= 99;
            Check.fault("house a people " + people[i] + ";", live ? 0 : 4, live ? -1 : 15);
            boolean draw = draws[i] <= 999;
            Check.fault("draw " + draws[i] + ";", draw ? 0 : 4, draw ? -1 : 5);
        }
    }

    private static void faultFive() {
        Check.says("Terms 1", "5 a NAME that no HOUSE has.");
        Check.fault("house a;house b at aa street 1;", 5, 19);
        Check.fault("house aa;house b at a street 1;", 5, 20);
        Check.fault(TWO + "cart c at c to b;", 5, 40);
        Check.fault(TWO + "cart c at a to c;", 5, 45);
        Check.fault(TWO + "cart c at a to b;house d at c street 1;", 5, 58);
        Check.fault("cart c at c to c;", 5, 10);
        // Names of an earlier town are forgotten.
        OneWayTown x = Check.told("house a;house b at a street 1;");
        Check.tape(x, "house c;house d at a street 1;");
        Check.due("a name of the town ahead", x.town(), -1);
        Check.due("a name of the town ahead", x.fault(0), 5);
        Check.due("its place", x.fault(1), 19);
    }

    private static void newObject() {
        Check.says("Promise 1", "An empty TOWN.");
        OneWayTown x = new OneWayTown();
        for (int what = 0; what <= 10; what++) {
            Check.due("about(" + what + ")", x.about(what), 0);
        }
        Check.due("no fault", x.fault(0), 0);
        Check.due("no place", x.fault(1), -1);
        Check.due("nothing lies there", x.lies(0), -1);
        Check.due("no act", x.undo(), false);
        Check.due("none to do again", x.redo(), false);
        for (int box = 0; box < 3; box++) {
            Check.due("an empty box", x.back(box), -1);
        }
        Check.due("no distance", x.untell(0), false);
        // One object knows nothing of another one.
        Edge.like("beside another one", () -> {
            Edge.busy();
            return new OneWayTown();
        }, OneWayTown::new);
    }

    /** Five numbers of twenty bytes of a text. */
    private static int feed(OneWayTown x, String twenty) {
        int[] five = new int[5];
        for (int i = 0; i < 20; i++) {
            five[i / 4] = five[i / 4] << 8 | twenty.charAt(i);
        }
        return x.feed(five[0], five[1], five[2], five[3], five[4]);
    }

    private static void feedBehind() {
        Check.says("Promise 2", "Twenty bytes come behind those on the TAPE, of each number the highest first: how many there are");
        for (int place = 0; place < 20; place++) {
            for (int sign : new int[] {'?', 255, 128, 0}) {
                OneWayTown x = new OneWayTown();
                Check.due("twenty", feed(x, " ".repeat(place) + (char) sign + " ".repeat(19 - place)), 20);
                Check.due("no town", x.town(), -1);
                Check.due("the byte's place", x.fault(1), place);
            }
        }
        OneWayTown x = new OneWayTown();
        Check.due("the first twenty", feed(x, "house abcdefg people"), 20);
        Check.due("the second twenty", feed(x, " 37;house b at abcde"), 40);
        Check.due("the third twenty", feed(x, "fg street 5;draw 64;"), 60);
        Check.due("end", x.end(57), 57);
        Check.due("behind 57", feed(x, "7;                  "), 77);
        Check.due("town", x.town(), 2);
        Check.due("people", x.house(0, 2), 37);
        Check.due("street", x.house(1, 1), 5);
        Check.due("draw", x.about(10), 7);
        Check.due("behind none again", feed(x, "house a;house b at a"), 20);
    }

    private static OneWayTown tapeOf(int bytes) {
        OneWayTown x = Check.told("house a;draw 3;");
        String text = blanksTo("draw 6;house k people 7;", bytes, "");
        Check.tape(x, text);
        return x;
    }

    private static void feedFull() {
        Check.says("Promise 2", "NONE, and nothing comes, if there would be more than 1,200.");
        OneWayTown x = new OneWayTown();
        for (int i = 1; i <= 60; i++) {
            Check.due("feed " + i, x.feed(0x20202020, 0x20202020, 0x20202020, 0x20202020, 0x20202020), 20 * i);
        }
        Check.due("feed 61", x.feed(0x20202020, 0x20202020, 0x20202020, 0x20202020, 0x20202020), -1);
        Check.due("feed 62", x.feed(0, 0, 0, 0, 0), -1);
        int[] full = {1181, 1182, 1190, 1199, 1200};
        for (int bytes : full) {
            Edge.refused("feed behind " + bytes, () -> tapeOf(bytes), y -> y.feed(-1, -1, -1, -1, -1), -1);
            OneWayTown y = tapeOf(bytes);
            y.feed(0x3f3f3f3f, 0x3f3f3f3f, 0x3f3f3f3f, 0x3f3f3f3f, 0x3f3f3f3f);
            Check.due("nothing came behind " + bytes, y.about(8), bytes);
            Check.due("it can be read", y.town(), 1);
            Check.due("people", y.house(0, 2), 7);
        }
        OneWayTown y = tapeOf(1180);
        Check.due("feed behind 1,180", y.feed(0, 0, 0, 0, 0x3f), 1200);
        Check.due("all came", y.about(8), 1200);
        Check.due("then no more", y.feed(0, 0, 0, 0, 0), -1);
        y.end(1);
        Check.due("there is room again", y.feed(0, 0, 0, 0, 0), 21);
    }

    private static void endCuts() {
        Check.says("Promise 3", "The TAPE has its first n bytes: n");
        OneWayTown x = new OneWayTown();
        Check.due("end(0) of nothing", x.end(0), 0);
        Check.tape(x, "draw 123;draw 456;  ");
        Check.due("all of them", x.end(20), 20);
        Check.due("they stay", x.about(8), 20);
        Check.due("all but one", x.end(19), 19);
        Check.due("the first nine", x.end(9), 9);
        Check.due("nine", x.about(8), 9);
        Check.due("town", x.town(), 0);
        Check.due("seed", x.about(10), 123);
        Check.tape(x, "draw 123;");
        Check.due("none", x.end(0), 0);
        Check.due("none", x.about(8), 0);
        Check.due("an empty text", x.town(), 0);
        Check.due("seed", x.about(10), 0);
        x = tapeOf(1200);
        Check.due("of a full one", x.end(1200), 1200);
        Check.due("of a full one", x.end(24), 24);
        Check.due("town", x.town(), 1);
    }

    private static void endRefused() {
        Check.says("Promise 3", "NONE, doing nothing, if it has not so many, or n is below 0.");
        int[] sizes = {0, 1, 20, 1199, 1200};
        for (int size : sizes) {
            Supplier<OneWayTown> make = () -> {
                OneWayTown x = Check.told("house a;draw 3;");
                Check.tape(x, "a".repeat(size));
                return x;
            };
            for (int n : Edge.outside(0, size)) {
                Check.due("end(" + n + ") of " + size, make.get().end(n), -1);
            }
            Edge.refused("end of one more than " + size, make, x -> x.end(size + 1), -1);
            Edge.refused("end(-1) of " + size, make, x -> x.end(-1), -1);
        }
        // What was cut off does not come back.
        OneWayTown x = new OneWayTown();
        Check.tape(x, "draw 123;draw 456;  ");
        x.end(9);
        Check.due("end(10) of nine", x.end(10), -1);
        Check.due("end(20) of nine", x.end(20), -1);
        Check.due("nine stay", x.about(8), 9);
    }

    private static void townEmptiesTape() {
        Check.says("Promise 4", "The TAPE (empty then) is the TOWN");
        OneWayTown x = new OneWayTown();
        Check.tape(x, "house a people 5;house b at a street 8;cart c at a to b;draw 9;");
        Check.due("town", x.town(), 2);
        Check.due("the tape is empty then", x.about(8), 0);
        Check.due("streets", x.about(2), 8);
        Check.due("carts", x.about(3), 1);
        Check.due("carts go", x.carts(0), 1);
        Check.tape(x, "house q people 4;");
        Check.due("another one", x.town(), 1);
        Check.due("people", x.about(1), 4);
        Check.due("no streets", x.about(2), 0);
        Check.due("no carts", x.about(3), 0);
        Check.due("no seed", x.about(10), 0);
        Check.due("far", x.far(0), 0);
        Check.due("nothing on the tape: an empty town", x.town(), 0);
        Check.due("no houses", x.about(0), 0);
        Check.due("no people", x.about(1), 0);
        Check.due("none such", x.house(0, 2), -2);
        Check.due("no carts go", x.carts(0), 0);
    }

    private static void townClears() {
        Check.says("Promise 4", "(no ACTS are kept, DISTANCES are none, nothing lies there, BOXES are empty then; the TIME stays)");
        OneWayTown x = Edge.busy();
        Check.due("there is something to undo", x.about(4) > 0, true);
        Check.due("there is something to do again", x.about(5) > 0, true);
        Check.due("there are distances", x.about(6) > 0, true);
        Check.due("something lies there", x.about(9) > 0, true);
        x.image(1);
        x.end(0);
        Check.tape(x, "house q;house r at q street 3;");
        Check.due("town", x.town(), 2);
        int[] want = {2, 2, 3, 0, 0, 0, 0, 11, 0, 0, 0};
        for (int what = 0; what < want.length; what++) {
            Check.due("about(" + what + ")", x.about(what), want[what]);
        }
        Check.due("undo", x.undo(), false);
        Check.due("redo", x.redo(), false);
        Check.due("lies(0)", x.lies(0), -1);
        for (int box = 0; box < 3; box++) {
            Check.due("alike(" + box + ")", x.alike(box, false), -1);
            Check.due("back(" + box + ")", x.back(box), -1);
        }
        Check.due("no distance is known", x.wrong(2, 11), -2);
        Check.due("none is untold", x.untell(0), false);
        Check.due("the first distance again", x.distance(0, 1, 4), 0);
        Check.due("told at the time that stayed", x.wrong(2, 10), -2);
        Check.due("known from then on", x.wrong(2, 11), 0);
        x.live(0, 9);
        Check.due("undone to the town as told", x.undo(), true);
        Check.due("people", x.house(0, 2), 1);
        Check.due("no more", x.undo(), false);
        // An empty tape does so too.
        OneWayTown y = Edge.busy();
        y.end(0);
        Check.due("an empty town", y.town(), 0);
        int[] none = {0, 0, 0, 0, 0, 0, 0, 11, 0, 0, 0};
        for (int what = 0; what < none.length; what++) {
            Check.due("empty: about(" + what + ")", y.about(what), none[what]);
        }
        Check.due("empty: back(0)", y.back(0), -1);
    }

    private static void townCounts() {
        Check.says("Promise 4", "how many HOUSES");
        for (int houses = 0; houses <= 14; houses++) {
            OneWayTown x = new OneWayTown();
            Check.tape(x, Edge.star(houses, 1, 1) + "draw 1;");
            Check.due("town of " + houses, x.town(), houses);
        }
    }

    private static void townFault() {
        Check.says("Promise 4", "NONE: a FAULT (all stays).");
        String[] faults = {"house q;house", "?", "house q people 100;", "draw 5;draw 5;", Edge.lane(14, 1, 1) + "house z",
            "house q;house q", "house q;house r at s street 1;", "cart"};
        for (String text : faults) {
            Supplier<OneWayTown> make = () -> {
                OneWayTown x = Edge.busy();
                x.end(0);
                Check.tape(x, text);
                return x;
            };
            Check.due("town of " + text, make.get().town(), -1);
            OneWayTown x = make.get();
            x.town();
            int[] what = {0, 1, 2, 3, 4, 5, 6, 7, 8, 9, 10};
            for (int w : what) {
                Check.due("about(" + w + ") behind " + text, x.about(w), make.get().about(w));
            }
            Check.due("the tape stays", x.about(8), text.length());
        }
        // busy() ends with a fault already, so that a second one leaves all there is.
        Edge.refused("town() with a fault", Edge::busy, OneWayTown::town, -1);
        OneWayTown x = new OneWayTown();
        Check.tape(x, "draw 5;house");
        Check.due("a fault", x.town(), -1);
        Check.due("no seed of it", x.about(10), 0);
        Check.due("no house of it", x.about(0), 0);
        Check.due("the tape stays", x.about(8), 12);
        x.end(7);
        Check.due("it can be mended", x.town(), 0);
        Check.due("its seed", x.about(10), 5);
    }

    private static void faultOfLatest() {
        Check.says("Promise 5", "Of the latest town() what 0: its FAULT (0), 1: its place (NONE).");
        OneWayTown x = new OneWayTown();
        x.town();
        Check.due("no fault", x.fault(0), 0);
        Check.due("no place", x.fault(1), -1);
        String[] texts = {"?", "house", "house a;house a", "draw 1000;", "house a;house b at c street 1;"};
        int[] places = {0, 5, 14, 5, 19};
        for (int i = 0; i < 5; i++) {
            x.end(0);
            Check.tape(x, texts[i]);
            Check.due("until the next town()", x.fault(0), i);
            Check.due("town of " + texts[i], x.town(), -1);
            Check.due("fault(0)", x.fault(0), i + 1);
            Check.due("fault(1)", x.fault(1), places[i]);
            Check.due("asked again", x.fault(0), i + 1);
            x.undo();
            x.image(0);
            Check.due("other calls leave it", x.fault(1), places[i]);
        }
        x.end(0);
        Check.due("a town", x.town(), 0);
        Check.due("no fault any more", x.fault(0), 0);
        Check.due("no place any more", x.fault(1), -1);
    }

    private static void faultOther() {
        Check.says("Promise 5", "NONE for another what.");
        for (int what : Edge.outside(0, 1)) {
            Check.due("fault(" + what + ") of none", new OneWayTown().fault(what), -1);
            Check.due("fault(" + what + ") of one", Edge.busy().fault(what), -1);
        }
    }
}
