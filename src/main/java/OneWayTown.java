/**
 * A town with but one way between any two of its houses, and what can be asked of it.
 *
 * <p>All rows that a call needs are made once, in the constructors, and used again: the calls
 * themselves make no objects.
 */
public final class OneWayTown {
    public static final int NONE = -1;

    private static final int NO_SUCH_HOUSE = -2;
    private static final int NOT_WHOLE = -2;
    private static final int NO_SUCH_QUESTION = -3;

    private static final int MOST_HOUSES = 14;
    private static final int MOST_CARTS = 4;
    private static final int MOST_BYTES = 1200;
    private static final int MOST_PICKED = 4;
    private static final int MOST_YEARS = 50;
    private static final int LONGEST_STREET = 99;
    private static final int MOST_PEOPLE = 99;
    private static final int WIDEST_REACH = 999;
    private static final int BOXES = 3;

    private final Tape tape = new Tape();
    private final Reader reader = new Reader(tape);
    private final Town present = new Town();
    private final Fleet fleet = new Fleet(present);
    private final Acts acts = new Acts();
    private final Ways ways = new Ways(present);
    private final Telling telling = new Telling(present);
    private final Sets sets = new Sets(present, ways);
    private final Likeness likeness = new Likeness(present);
    private final Marks markRow = new Marks();
    private final Doors doors = new Doors();
    private final Town[] boxes = new Town[BOXES];
    private final boolean[] boxFilled = new boolean[BOXES];
    private final int[] lying = new int[MOST_HOUSES];
    private int lyingCount;

    public OneWayTown() {
        for (int box = 0; box < BOXES; box++) {
            boxes[box] = new Town();
        }
    }

    // ---- The text

    public int feed(int a, int b, int c, int d, int e) {
        if (tape.size + 20 > MOST_BYTES) {
            return NONE;
        }
        tape.add(a);
        tape.add(b);
        tape.add(c);
        tape.add(d);
        tape.add(e);
        return tape.size;
    }

    public int end(int n) {
        if (n < 0 || n > tape.size) {
            return NONE;
        }
        tape.size = n;
        return n;
    }

    public int town() {
        if (!reader.read()) {
            return NONE;
        }
        tape.size = 0;
        present.copy(reader.draft);
        fleet.set(reader.cartCount, reader.cartAt, reader.cartTo);
        acts.start(present);
        doors.count = 0;
        lyingCount = 0;
        for (int box = 0; box < BOXES; box++) {
            boxFilled[box] = false;
        }
        renew();
        return present.count;
    }

    public int fault(int what) {
        if (what == 0) {
            return reader.blamed;
        }
        return what == 1 ? reader.blamedPlace : NONE;
    }

    // ---- Houses and ways

    public int house(int house, int what) {
        if (!present.has(house)) {
            return NO_SUCH_HOUSE;
        }
        switch (what) {
            case 0:
                return present.hangsAt[house];
            case 1:
                return present.street[house];
            case 2:
                return present.people[house];
            case 3:
                return present.streetsAt(house);
            default:
                return NO_SUCH_HOUSE;
        }
    }

    public int way(int a, int b) {
        lyingCount = 0;
        if (!present.has(a) || !present.has(b)) {
            return NONE;
        }
        lyingCount = ways.walk(a, b, lying);
        return ways.length[a][b];
    }

    public int far(int house) {
        return present.has(house) ? ways.longestFrom(house) : NONE;
    }

    public int farthest(int what) {
        if (present.count < 2 || what < 0 || what > 2) {
            return NONE;
        }
        int first = ways.firstFarthest();
        int second = ways.firstFarFrom(first);
        if (what == 2) {
            return ways.length[first][second];
        }
        return what == 0 ? first : second;
    }

    public int middle(int sort) {
        if (present.count == 0 || sort < 0 || sort > 2) {
            return NONE;
        }
        int best = 0;
        for (int house = 1; house < present.count; house++) {
            if (ways.offMiddle(house, sort) < ways.offMiddle(best, sort)) {
                best = house;
            }
        }
        return best;
    }

    public int post(int house, boolean home) {
        if (!present.has(house)) {
            return NONE;
        }
        int there = 2 * present.lengthTogether();
        // Every street is gone twice, but those of one way to the end need no going back.
        return home ? there : there - ways.longestFrom(house);
    }

    public int quarters(int house) {
        lyingCount = 0;
        if (!present.has(house)) {
            return NONE;
        }
        lyingCount = ways.quartersWithout(house, lying);
        return lyingCount;
    }

    public int joined(int house, int what) {
        if (!present.has(house) || house == 0 || what < 0 || what > 2) {
            return NONE;
        }
        ways.joinElsewhere(house);
        if (what == 0) {
            return ways.joinedLongest;
        }
        return what == 1 ? ways.joinedInner : ways.joinedOuter;
    }

    // ---- Acts

    public int grow(int at, int street, int people) {
        if (!present.has(at) || present.count >= MOST_HOUSES) {
            return NONE;
        }
        if (street < 1 || street > LONGEST_STREET || people < 0 || people > MOST_PEOPLE) {
            return NONE;
        }
        int number = present.add(at, street, people);
        keepAct();
        return number;
    }

    public boolean move(int house, int at) {
        if (!present.has(house) || house == 0 || !present.has(at)) {
            return false;
        }
        if (present.isWithin(at, house)) {
            return false;
        }
        present.hangsAt[house] = at;
        keepAct();
        return true;
    }

    public int live(int house, int people) {
        if (!present.has(house) || people < 0 || people > MOST_PEOPLE) {
            return NONE;
        }
        int before = present.people[house];
        present.people[house] = people;
        // The streets stay, and so does what is worked out from them.
        acts.keep(present);
        return before;
    }

    public int years(int n) {
        if (n < 0 || n > MOST_YEARS || present.count == 0) {
            return NONE;
        }
        for (int year = 0; year < n; year++) {
            present.passYear();
        }
        keepAct();
        return present.count;
    }

    public boolean grown(int n, long marks) {
        if (n < 2 || n > MOST_HOUSES || fleet.needsHouse(n) || !markRow.take(n, marks)) {
            return false;
        }
        markRow.plant(n, present);
        keepAct();
        return true;
    }

    public boolean undo() {
        if (!acts.stepBack(present)) {
            return false;
        }
        renew();
        return true;
    }

    public boolean redo() {
        if (!acts.stepOn(present)) {
            return false;
        }
        renew();
        return true;
    }

    public int image(int box) {
        if (box < 0 || box >= BOXES) {
            return NONE;
        }
        boxes[box].copy(present);
        boxFilled[box] = true;
        return present.count;
    }

    public int back(int box) {
        if (!isFilled(box)) {
            return NONE;
        }
        present.copy(boxes[box]);
        acts.start(present);
        renew();
        return present.count;
    }

    // ---- Sets of houses

    public int wardens(int d) {
        if (d < 0 || d > WIDEST_REACH) {
            return NONE;
        }
        return sets.wardenMask(d);
    }

    public int quiet() {
        return sets.quietMask();
    }

    public int guards() {
        return sets.guardMask();
    }

    public int wells(int k) {
        lyingCount = 0;
        if (k < 1 || k > MOST_PICKED || present.count == 0) {
            return NONE;
        }
        int d = sets.leastReach(k);
        lay(sets.wardenMask(d));
        return d;
    }

    public int shops(int k) {
        lyingCount = 0;
        if (k < 1 || k > MOST_PICKED || present.count == 0) {
            return NONE;
        }
        sets.openShops(k);
        lay(sets.shopMask);
        return sets.shopSum;
    }

    public int counted(int what) {
        switch (what) {
            case 0:
            case 1:
                // What is left out of a set with one at each street's end has no two joined.
                return sets.countApart();
            case 2:
                return sets.countTogether();
            case 3:
                return sets.countStreetSets();
            default:
                return NONE;
        }
    }

    // ---- News and carts

    public int news(int house) {
        return present.has(house) ? telling.hoursFrom(house, false) : NONE;
    }

    public int tidings(int house) {
        return present.has(house) ? telling.hoursFrom(house, true) : NONE;
    }

    public int bestNews() {
        int best = NONE;
        int fewest = 0;
        for (int house = 0; house < present.count; house++) {
            int hours = telling.hoursFrom(house, false);
            if (best == NONE || hours < fewest) {
                best = house;
                fewest = hours;
            }
        }
        return best;
    }

    public int carts(int what) {
        if (what < 0 || what > 2) {
            return NO_SUCH_QUESTION;
        }
        int steps = fleet.solve();
        if (what == 0 || steps < 0) {
            return steps;
        }
        if (steps == 0) {
            return NONE;
        }
        return what == 1 ? fleet.firstCart() : fleet.firstHouse();
    }

    // ---- Likeness and marks

    public int alike(int box, boolean lengths) {
        if (!isFilled(box)) {
            return NONE;
        }
        return likeness.isLike(present, boxes[box], lengths) ? 1 : 0;
    }

    public long selves(boolean lengths) {
        return likeness.countSelves(present, lengths);
    }

    public int unlike(int size) {
        if (size < 1 || size > MOST_HOUSES) {
            return NONE;
        }
        return likeness.countUnlike(size);
    }

    public int marks() {
        lyingCount = markRow.tell(present, lying);
        return lyingCount;
    }

    public int tried(int law, int n) {
        if (law < 0 || law >= Marks.LAWS || n < 2 || n > Marks.MOST_TRIED) {
            return NONE;
        }
        return markRow.tryLaw(law, n);
    }

    // ---- What lies there

    public int lies(int i) {
        return i >= 0 && i < lyingCount ? lying[i] : NONE;
    }

    // ---- Distances

    public int distance(int a, int b, int so) {
        return doors.tell(a, b, so);
    }

    public boolean untell(int distance) {
        return doors.takeBack(distance);
    }

    public int later(int by) {
        return doors.passTime(by);
    }

    public int wrong(int n, int k) {
        if (n < 2 || n > Doors.MOST_DOORS) {
            return NONE;
        }
        return doors.learn(n, k) ? doors.firstWrong(n) : NOT_WHOLE;
    }

    public int mended(int n, int what, int k) {
        if (n < 2 || n > Doors.MOST_DOORS || what < 0 || what > 1) {
            return NO_SUCH_QUESTION;
        }
        if (!doors.learn(n, k)) {
            return NOT_WHOLE;
        }
        if (doors.firstWrong(n) == 0) {
            return 0;
        }
        if (!doors.mend(n)) {
            return NONE;
        }
        return what == 0 ? doors.mendedPair : doors.mendedTo;
    }

    // ---- About

    public int about(int what) {
        switch (what) {
            case 0:
                return present.count;
            case 1:
                return present.peopleTogether();
            case 2:
                return present.lengthTogether();
            case 3:
                return fleet.count;
            case 4:
                return acts.now;
            case 5:
                return acts.last - acts.now;
            case 6:
                return doors.count;
            case 7:
                return doors.time;
            case 8:
                return tape.size;
            case 9:
                return lyingCount;
            case 10:
                return present.seed;
            default:
                return NONE;
        }
    }

    private boolean isFilled(int box) {
        return box >= 0 && box < BOXES && boxFilled[box];
    }

    private void keepAct() {
        acts.keep(present);
        renew();
    }

    /** What is worked out from the streets is old as soon as the town is another one. */
    private void renew() {
        ways.measure();
        fleet.forget();
    }

    private void lay(int mask) {
        lyingCount = 0;
        for (int house = 0; house < MOST_HOUSES; house++) {
            if ((mask >> house & 1) != 0) {
                lying[lyingCount] = house;
                lyingCount++;
            }
        }
    }

    /** The bytes that were fed, and the tokens in them. */
    private static final class Tape {
        static final int END = 0;
        static final int NO_TOKEN = 1;
        static final int SIGN = 2;
        static final int NUMBER = 3;
        static final int NAME = 4;
        static final int HOUSE = 5;
        static final int AT = 6;
        static final int STREET = 7;
        static final int PEOPLE = 8;
        static final int CART = 9;
        static final int TO = 10;
        static final int DRAW = 11;

        private static final int LONGEST_WORD = 8;
        private static final int LONGEST_NUMBER = 4;

        int size;
        int kind;
        int place;
        int number;
        long word;
        private final byte[] bytes = new byte[MOST_BYTES];
        private int spot;

        void add(int four) {
            for (int shift = 24; shift >= 0 && size < MOST_BYTES; shift -= 8) {
                bytes[size] = (byte) (four >>> shift);
                size++;
            }
        }

        void restart() {
            spot = 0;
            step();
        }

        void step() {
            while (spot < size && (bytes[spot] == 32 || bytes[spot] == 10)) {
                spot++;
            }
            place = spot;
            if (spot >= size) {
                kind = END;
            } else if (isLetter(spot)) {
                readWord();
                kind = spot - place > LONGEST_WORD ? NO_TOKEN : kindOfWord();
            } else if (isDigit(spot)) {
                readNumber();
            } else {
                kind = bytes[spot] == ';' ? SIGN : NO_TOKEN;
                spot++;
            }
        }

        private boolean isLetter(int at) {
            return at < size && bytes[at] >= 'a' && bytes[at] <= 'z';
        }

        private boolean isDigit(int at) {
            return at < size && bytes[at] >= '0' && bytes[at] <= '9';
        }

        private void readWord() {
            word = 0;
            while (spot < size && isLetter(spot)) {
                // Five bits a letter: words of eight letters or less are told apart by one number.
                word = word << 5 | bytes[spot] & 31;
                spot++;
            }
        }

        private void readNumber() {
            number = 0;
            while (spot < size && isDigit(spot)) {
                number = number * 10 + bytes[spot] - '0';
                spot++;
            }
            boolean good = spot - place <= LONGEST_NUMBER && !isLetter(spot);
            kind = good ? NUMBER : NO_TOKEN;
        }

        private int kindOfWord() {
            if (spells("house")) {
                return HOUSE;
            }
            if (spells("at")) {
                return AT;
            }
            if (spells("street")) {
                return STREET;
            }
            if (spells("people")) {
                return PEOPLE;
            }
            if (spells("cart")) {
                return CART;
            }
            if (spells("to")) {
                return TO;
            }
            return spells("draw") ? DRAW : NAME;
        }

        private boolean spells(String other) {
            if (spot - place != other.length()) {
                return false;
            }
            for (int i = 0; i < other.length(); i++) {
                if (bytes[place + i] != other.charAt(i)) {
                    return false;
                }
            }
            return true;
        }
    }

    /** Reads the tape as a town, or finds its first fault. */
    private static final class Reader {
        private static final int BAD_TOKEN = 1;
        private static final int OUT_OF_PLACE = 2;
        private static final int TOLD_ALREADY = 3;
        private static final int BAD_NUMBER = 4;
        private static final int UNKNOWN_NAME = 5;
        private static final int GREATEST_DRAW = 999;

        final Town draft = new Town();
        final int[] cartAt = new int[MOST_CARTS];
        final int[] cartTo = new int[MOST_CARTS];
        int cartCount;
        int blamed;
        int blamedPlace = NONE;
        private final Tape tape;
        private final long[] houseNames = new long[MOST_HOUSES];
        private final long[] cartNames = new long[MOST_CARTS];
        private boolean drawn;

        Reader(Tape tape) {
            this.tape = tape;
        }

        boolean read() {
            draft.clear();
            cartCount = 0;
            drawn = false;
            blamed = 0;
            blamedPlace = NONE;
            tape.restart();
            boolean good = true;
            for (int line = 0; line < MOST_BYTES && good && tape.kind != Tape.END; line++) {
                switch (tape.kind) {
                    case Tape.HOUSE:
                        good = draft.count < MOST_HOUSES ? readHouse() : misplaced();
                        break;
                    case Tape.CART:
                        good = cartCount < MOST_CARTS ? readCart() : misplaced();
                        break;
                    case Tape.DRAW:
                        good = drawn ? misplaced() : readDraw();
                        break;
                    default:
                        good = misplaced();
                        break;
                }
            }
            return good;
        }

        private boolean readHouse() {
            tape.step();
            long name = tape.word;
            if (!isNewName(houseNames, draft.count)) {
                return false;
            }
            int at = NONE;
            int street = 0;
            if (draft.count > 0) {
                at = takeToken(Tape.AT) ? takeHouse() : NONE;
                street = at != NONE && takeToken(Tape.STREET) ? takeNumber(1, LONGEST_STREET) : NONE;
                if (street == NONE) {
                    return false;
                }
            }
            int people = 1;
            if (tape.kind == Tape.PEOPLE) {
                tape.step();
                people = takeNumber(0, MOST_PEOPLE);
            }
            if (people == NONE || !takeToken(Tape.SIGN)) {
                return false;
            }
            houseNames[draft.count] = name;
            draft.add(at, street, people);
            return true;
        }

        private boolean readCart() {
            tape.step();
            long name = tape.word;
            if (!isNewName(cartNames, cartCount) || !takeToken(Tape.AT)) {
                return false;
            }
            int at = takeFreeHouse(cartAt, NONE);
            if (at == NONE || !takeToken(Tape.TO)) {
                return false;
            }
            int to = takeFreeHouse(cartTo, at);
            if (to == NONE || !takeToken(Tape.SIGN)) {
                return false;
            }
            cartNames[cartCount] = name;
            cartAt[cartCount] = at;
            cartTo[cartCount] = to;
            cartCount++;
            return true;
        }

        private boolean readDraw() {
            tape.step();
            int seed = takeNumber(0, GREATEST_DRAW);
            if (seed == NONE || !takeToken(Tape.SIGN)) {
                return false;
            }
            draft.seed = seed;
            drawn = true;
            return true;
        }

        private boolean isNewName(long[] names, int count) {
            if (tape.kind != Tape.NAME) {
                return misplaced();
            }
            if (find(tape.word, names, count) != NONE) {
                return blame(TOLD_ALREADY);
            }
            tape.step();
            return true;
        }

        private boolean takeToken(int kind) {
            if (tape.kind != kind) {
                return misplaced();
            }
            tape.step();
            return true;
        }

        private int takeNumber(int least, int most) {
            if (tape.kind != Tape.NUMBER) {
                misplaced();
                return NONE;
            }
            int number = tape.number;
            if (number < least || number > most) {
                blame(BAD_NUMBER);
                return NONE;
            }
            tape.step();
            return number;
        }

        private int takeHouse() {
            int house = knownHouse();
            if (house != NONE) {
                tape.step();
            }
            return house;
        }

        /** A house that no cart has in the row told so far, and that is not the barred one. */
        private int takeFreeHouse(int[] row, int barred) {
            int house = knownHouse();
            if (house == NONE) {
                return NONE;
            }
            boolean free = house != barred;
            for (int cart = 0; cart < cartCount; cart++) {
                free = free && row[cart] != house;
            }
            if (!free) {
                blame(TOLD_ALREADY);
                return NONE;
            }
            tape.step();
            return house;
        }

        private int knownHouse() {
            if (tape.kind != Tape.NAME) {
                misplaced();
                return NONE;
            }
            int house = find(tape.word, houseNames, draft.count);
            if (house == NONE) {
                blame(UNKNOWN_NAME);
            }
            return house;
        }

        private static int find(long name, long[] names, int count) {
            for (int i = 0; i < count && i < names.length; i++) {
                if (names[i] == name) {
                    return i;
                }
            }
            return NONE;
        }

        private boolean misplaced() {
            return blame(tape.kind == Tape.NO_TOKEN ? BAD_TOKEN : OUT_OF_PLACE);
        }

        /** Always false, so that a reading method can end with it. */
        private boolean blame(int fault) {
            blamed = fault;
            blamedPlace = tape.place;
            return false;
        }
    }

    /** Houses, the streets by which they hang, and the seed of the years. */
    private static final class Town {
        int count;
        int seed;
        final int[] hangsAt = new int[MOST_HOUSES];
        final int[] street = new int[MOST_HOUSES];
        final int[] people = new int[MOST_HOUSES];

        void clear() {
            count = 0;
            seed = 0;
        }

        void copy(Town other) {
            count = other.count;
            seed = other.seed;
            System.arraycopy(other.hangsAt, 0, hangsAt, 0, count);
            System.arraycopy(other.street, 0, street, 0, count);
            System.arraycopy(other.people, 0, people, 0, count);
        }

        boolean has(int house) {
            return house >= 0 && house < count;
        }

        int add(int at, int length, int dwellers) {
            if (count >= MOST_HOUSES) {
                return NONE;
            }
            hangsAt[count] = at;
            street[count] = length;
            people[count] = dwellers;
            count++;
            return count - 1;
        }

        /** How long the street between two houses is, 0 if there is none. */
        int streetBetween(int a, int b) {
            if (hangsAt[a] == b) {
                return street[a];
            }
            return hangsAt[b] == a ? street[b] : 0;
        }

        int streetsAt(int house) {
            int streets = house == 0 ? 0 : 1;
            for (int other = 1; other < count; other++) {
                if (hangsAt[other] == house) {
                    streets++;
                }
            }
            return streets;
        }

        /** Whether a house is the other one, or behind it as seen from house 0. */
        boolean isWithin(int house, int other) {
            int at = house;
            for (int step = 0; step < MOST_HOUSES && has(at); step++) {
                if (at == other) {
                    return true;
                }
                at = hangsAt[at];
            }
            return false;
        }

        int peopleTogether() {
            int sum = 0;
            for (int house = 0; house < count; house++) {
                sum += people[house];
            }
            return sum;
        }

        int lengthTogether() {
            int sum = 0;
            for (int house = 1; house < count; house++) {
                sum += street[house];
            }
            return sum;
        }

        void passYear() {
            if (count == 0) {
                return;
            }
            seed = (seed * 137 + 71) % 1000;
            if (seed % 4 == 0) {
                burn();
                return;
            }
            int at = seed % count;
            if (count < MOST_HOUSES) {
                add(at, 1 + seed % 9, seed % 5);
            } else {
                people[at] = Math.min(MOST_PEOPLE, people[at] + 1);
            }
        }

        private void burn() {
            for (int house = count - 1; house >= 0; house--) {
                if (streetsAt(house) == 1) {
                    people[house] = 0;
                    return;
                }
            }
        }
    }

    /** The towns before and behind the acts that are kept. */
    private static final class Acts {
        private static final int MOST_ACTS = 40;
        private static final int ROOM = MOST_ACTS + 1;

        int now;
        int last;
        private final Town[] kept = new Town[ROOM];
        private int oldest;

        Acts() {
            for (int i = 0; i < ROOM; i++) {
                kept[i] = new Town();
            }
        }

        void start(Town town) {
            now = 0;
            last = 0;
            current().copy(town);
        }

        void keep(Town town) {
            if (now < MOST_ACTS) {
                now++;
            } else {
                oldest = (oldest + 1) % ROOM;
            }
            last = now;
            current().copy(town);
        }

        boolean stepBack(Town town) {
            if (now == 0) {
                return false;
            }
            now--;
            town.copy(current());
            return true;
        }

        boolean stepOn(Town town) {
            if (now == last) {
                return false;
            }
            now++;
            town.copy(current());
            return true;
        }

        private Town current() {
            return kept[(oldest + now) % ROOM];
        }
    }

    /** How long all ways are, and what follows from that alone. */
    private static final class Ways {
        /** Houses so that each comes behind the one that it hangs at. */
        final int[] order = new int[MOST_HOUSES];
        final int[][] length = new int[MOST_HOUSES][MOST_HOUSES];
        int joinedLongest;
        int joinedInner;
        int joinedOuter;
        private final Town town;
        private final int[] behind = new int[MOST_HOUSES];
        private final int[] quarterRow = new int[MOST_HOUSES];
        private final int[] partFar = new int[MOST_HOUSES];

        Ways(Town town) {
            this.town = town;
        }

        void measure() {
            sortFromFirst();
            for (int i = 0; i < town.count; i++) {
                int house = order[i];
                length[house][house] = 0;
                for (int j = 0; j < i; j++) {
                    int other = order[j];
                    int whole = length[town.hangsAt[house]][other] + town.street[house];
                    length[house][other] = whole;
                    length[other][house] = whole;
                }
            }
        }

        private void sortFromFirst() {
            order[0] = 0;
            int filled = 1;
            for (int i = 0; i < town.count && i < filled; i++) {
                for (int house = 1; house < town.count; house++) {
                    if (town.hangsAt[house] == order[i] && filled < MOST_HOUSES) {
                        order[filled] = house;
                        filled++;
                    }
                }
            }
        }

        /** Puts down the houses of a way, the first one first: how many. */
        int walk(int from, int to, int[] into) {
            int at = from;
            into[0] = at;
            int filled = 1;
            while (at != to && filled < MOST_HOUSES) {
                at = nextToward(at, to);
                into[filled] = at;
                filled++;
            }
            return filled;
        }

        private int nextToward(int at, int to) {
            for (int next = 0; next < town.count; next++) {
                int street = town.streetBetween(at, next);
                if (street > 0 && street + length[next][to] == length[at][to]) {
                    return next;
                }
            }
            return to;
        }

        int longestFrom(int house) {
            int longest = 0;
            for (int other = 0; other < town.count; other++) {
                longest = Math.max(longest, length[house][other]);
            }
            return longest;
        }

        int longest() {
            int longest = 0;
            for (int house = 0; house < town.count; house++) {
                longest = Math.max(longest, longestFrom(house));
            }
            return longest;
        }

        int leastLongest() {
            int least = longestFrom(0);
            for (int house = 1; house < town.count; house++) {
                least = Math.min(least, longestFrom(house));
            }
            return least;
        }

        int firstFarthest() {
            int longest = longest();
            for (int house = 0; house < town.count; house++) {
                if (longestFrom(house) == longest) {
                    return house;
                }
            }
            return 0;
        }

        int firstFarFrom(int house) {
            int longest = longestFrom(house);
            for (int other = 0; other < town.count; other++) {
                if (length[house][other] == longest) {
                    return other;
                }
            }
            return house;
        }

        /** What a middle of the sort has least of. */
        int offMiddle(int house, int sort) {
            if (sort == 0) {
                return longestFrom(house);
            }
            return sort == 1 ? walkedTo(house) : greatestQuarter(house);
        }

        private int walkedTo(int house) {
            int sum = 0;
            for (int other = 0; other < town.count; other++) {
                sum += length[house][other] * town.people[other];
            }
            return sum;
        }

        private int greatestQuarter(int house) {
            int quarters = quartersWithout(house, quarterRow);
            int greatest = 0;
            for (int i = 0; i < quarters; i++) {
                greatest = Math.max(greatest, quarterRow[i]);
            }
            return greatest;
        }

        /** Puts down the people of each quarter, by the neighbours' numbers: how many. */
        int quartersWithout(int house, int[] into) {
            sumBehind();
            int filled = 0;
            for (int other = 0; other < town.count; other++) {
                if (town.hangsAt[other] == house) {
                    into[filled] = behind[other];
                    filled++;
                } else if (town.hangsAt[house] == other) {
                    into[filled] = behind[0] - behind[house];
                    filled++;
                }
            }
            return filled;
        }

        /** The people of each house with all behind it. */
        private void sumBehind() {
            for (int house = 0; house < town.count; house++) {
                behind[house] = town.people[house];
            }
            for (int i = town.count - 1; i > 0; i--) {
                int house = order[i];
                behind[town.hangsAt[house]] += behind[house];
            }
        }

        void joinElsewhere(int house) {
            int within = maskWithin(house);
            int longestApart = measureParts(within);
            boolean found = false;
            for (int inner = 0; inner < town.count; inner++) {
                for (int outer = 0; outer < town.count; outer++) {
                    if ((within >> inner & 1) == 0 || (within >> outer & 1) != 0) {
                        continue;
                    }
                    int across = partFar[inner] + town.street[house] + partFar[outer];
                    int longest = Math.max(longestApart, across);
                    if (!found || longest < joinedLongest) {
                        found = true;
                        joinedLongest = longest;
                        joinedInner = inner;
                        joinedOuter = outer;
                    }
                }
            }
        }

        private int maskWithin(int house) {
            int mask = 0;
            for (int other = 0; other < town.count; other++) {
                if (town.isWithin(other, house)) {
                    mask |= 1 << other;
                }
            }
            return mask;
        }

        /** How far each house has it within its own part; the longest way of both parts. */
        private int measureParts(int within) {
            int longest = 0;
            for (int house = 0; house < town.count; house++) {
                partFar[house] = 0;
                for (int other = 0; other < town.count; other++) {
                    if ((within >> house & 1) == (within >> other & 1)) {
                        partFar[house] = Math.max(partFar[house], length[house][other]);
                    }
                }
                longest = Math.max(longest, partFar[house]);
            }
            return longest;
        }
    }

    /** News: whom to tell first. */
    private static final class Telling {
        private final Town town;
        /** A row for each depth, since a house's row is in use while those behind it fill theirs. */
        private final int[][] needs = new int[MOST_HOUSES][MOST_HOUSES];

        Telling(Town town) {
            this.town = town;
        }

        int hoursFrom(int house, boolean byLength) {
            return hoursBehind(house, NONE, byLength, 0);
        }

        private int hoursBehind(int house, int from, boolean byLength, int depth) {
            if (depth >= MOST_HOUSES) {
                return 0;
            }
            int[] row = needs[depth];
            int filled = 0;
            for (int other = 0; other < town.count; other++) {
                int street = town.streetBetween(house, other);
                if (street > 0 && other != from) {
                    int tells = byLength ? street : 1;
                    insert(row, filled, tells + hoursBehind(other, house, byLength, depth + 1));
                    filled++;
                }
            }
            int hours = 0;
            for (int i = 0; i < filled; i++) {
                hours = Math.max(hours, i + row[i]);
            }
            return hours;
        }

        /** The greatest first: who needs longest must be told first. */
        private static void insert(int[] row, int filled, int need) {
            int at = filled;
            while (at > 0 && row[at - 1] < need) {
                row[at] = row[at - 1];
                at--;
            }
            row[at] = need;
        }
    }

    /**
     * The fewest, the most, the first sets of houses. The first of the best sets is found by
     * taking the houses in turn and asking whether a best set with the ones settled so far is left.
     */
    private static final class Sets {
        private static final int FREE = 0;
        private static final int IN = 1;
        private static final int OUT = 2;
        /** Far above every true sum, low enough that fourteen of them stay an int. */
        private static final int IMPOSSIBLE = 1000000;
        private static final int GREATEST_SUM = 2000000000;

        int shopMask;
        int shopSum;
        private final Town town;
        private final Ways ways;
        private final int[] choice = new int[MOST_HOUSES];
        private final int[] weight = new int[MOST_HOUSES];
        private final int[] with = new int[MOST_HOUSES];
        private final int[] without = new int[MOST_HOUSES];
        private final int[] fewest = new int[MOST_HOUSES];
        private final int[][] served = new int[MOST_HOUSES][MOST_HOUSES];
        private final int[][] nearest = new int[MOST_PICKED + 1][MOST_HOUSES];

        Sets(Town town, Ways ways) {
            this.town = town;
            this.ways = ways;
        }

        int wardenMask(int d) {
            int least = leastWardens(d);
            int mask = 0;
            for (int house = 0; house < town.count; house++) {
                choice[house] = IN;
                if (wardensWithChoices(d) > least) {
                    choice[house] = OUT;
                } else {
                    mask |= 1 << house;
                }
            }
            return mask;
        }

        int leastWardens(int d) {
            freeAll();
            return wardensWithChoices(d);
        }

        /** The least d for which k wardens are enough: more reach never needs more wardens. */
        int leastReach(int k) {
            int low = 0;
            int high = WIDEST_REACH;
            for (int halving = 0; halving < 10 && low < high; halving++) {
                int half = (low + high) / 2;
                if (leastWardens(half) <= k) {
                    high = half;
                } else {
                    low = half + 1;
                }
            }
            return low;
        }

        private void freeAll() {
            for (int house = 0; house < MOST_HOUSES; house++) {
                choice[house] = FREE;
            }
        }

        private int wardensWithChoices(int d) {
            if (town.count == 0) {
                return 0;
            }
            int settled = 0;
            for (int house = 0; house < town.count; house++) {
                if (choice[house] == IN) {
                    settled++;
                }
                for (int warden = 0; warden < town.count; warden++) {
                    served[house][warden] = price(warden);
                }
            }
            for (int i = town.count - 1; i >= 0; i--) {
                serve(ways.order[i], d);
            }
            return settled + fewest[0];
        }

        private int price(int warden) {
            return choice[warden] == FREE ? 1 : 0;
        }

        /**
         * The fewest wardens for a house and all behind it, by the warden that serves the house:
         * a house behind it has the same one, or one that is behind it.
         */
        private void serve(int house, int d) {
            fewest[house] = IMPOSSIBLE;
            for (int warden = 0; warden < town.count; warden++) {
                if (choice[warden] == OUT || ways.length[house][warden] > d) {
                    served[house][warden] = IMPOSSIBLE;
                }
                fewest[house] = Math.min(fewest[house], served[house][warden]);
            }
            int at = town.hangsAt[house];
            if (!town.has(at)) {
                return;
            }
            for (int warden = 0; warden < town.count; warden++) {
                int shared = served[house][warden] - price(warden);
                served[at][warden] += Math.min(fewest[house], shared);
            }
        }

        int quietMask() {
            for (int house = 0; house < town.count; house++) {
                weight[house] = town.people[house];
            }
            return apartMask(IN, OUT);
        }

        int guardMask() {
            for (int house = 0; house < town.count; house++) {
                weight[house] = 1;
            }
            // The houses without a guard are the most of which no two are joined.
            return ~apartMask(OUT, IN) & (1 << town.count) - 1;
        }

        /** The heaviest set of houses no two of which are joined, as the tries in turn lead to it. */
        private int apartMask(int firstTry, int otherwise) {
            freeAll();
            int most = heaviestApart();
            int mask = 0;
            for (int house = 0; house < town.count; house++) {
                choice[house] = firstTry;
                if (heaviestApart() < most) {
                    choice[house] = otherwise;
                }
                if (choice[house] == IN) {
                    mask |= 1 << house;
                }
            }
            return mask;
        }

        private int heaviestApart() {
            if (town.count == 0) {
                return 0;
            }
            for (int house = 0; house < town.count; house++) {
                with[house] = choice[house] == OUT ? -IMPOSSIBLE : weight[house];
                without[house] = choice[house] == IN ? -IMPOSSIBLE : 0;
            }
            for (int i = town.count - 1; i > 0; i--) {
                int house = ways.order[i];
                int at = town.hangsAt[house];
                with[at] += without[house];
                without[at] += Math.max(with[house], without[house]);
            }
            return Math.max(with[0], without[0]);
        }

        int countApart() {
            if (town.count == 0) {
                return 1;
            }
            startCount(1);
            for (int i = town.count - 1; i > 0; i--) {
                int house = ways.order[i];
                int at = town.hangsAt[house];
                with[at] *= without[house];
                without[at] *= with[house] + without[house];
            }
            return with[0] + without[0];
        }

        int countTogether() {
            startCount(1);
            int sum = 0;
            for (int i = town.count - 1; i >= 0; i--) {
                int house = ways.order[i];
                sum += with[house];
                if (i > 0) {
                    with[town.hangsAt[house]] *= 1 + with[house];
                }
            }
            return sum;
        }

        int countStreetSets() {
            if (town.count == 0) {
                return 1;
            }
            startCount(0);
            for (int i = town.count - 1; i > 0; i--) {
                int house = ways.order[i];
                int at = town.hangsAt[house];
                int all = with[house] + without[house];
                with[at] = with[at] * all + without[at] * without[house];
                without[at] *= all;
            }
            return with[0] + without[0];
        }

        private void startCount(int withEach) {
            for (int house = 0; house < town.count; house++) {
                with[house] = withEach;
                without[house] = 1;
            }
        }

        void openShops(int k) {
            shopMask = 0;
            shopSum = GREATEST_SUM;
            for (int house = 0; house < town.count; house++) {
                nearest[0][house] = IMPOSSIBLE;
            }
            openMore(0, 0, 0, Math.min(k, town.count));
        }

        private void openMore(int open, int from, int mask, int shops) {
            if (open >= shops || open >= MOST_PICKED) {
                return;
            }
            int behindThis = shops - open - 1;
            for (int house = from; house < town.count - behindThis; house++) {
                int sum = sumWith(open, house);
                if (behindThis > 0) {
                    openMore(open + 1, house + 1, mask | 1 << house, shops);
                } else if (sum < shopSum) {
                    shopSum = sum;
                    shopMask = mask | 1 << house;
                }
            }
        }

        /** Opens a shop beside those open: all ways to the nearest ones, times people. */
        private int sumWith(int open, int shop) {
            int[] before = nearest[open];
            int[] then = nearest[open + 1];
            int sum = 0;
            for (int house = 0; house < town.count; house++) {
                then[house] = Math.min(before[house], ways.length[shop][house]);
                sum += then[house] * town.people[house];
            }
            return sum;
        }
    }

    /** The carts, and the search for the fewest steps that bring them where they go. */
    private static final class Fleet {
        private static final int SPENT = -2;
        private static final int MOST_STATES = 20000;
        private static final int STATE_BITS = 16;
        private static final int UNSOLVED = -3;

        int count;
        private final Town town;
        private final int[] startsAt = new int[MOST_CARTS];
        private final int[] goesTo = new int[MOST_CARTS];
        private final int[][] neighbours = new int[MOST_HOUSES][MOST_HOUSES];
        private final int[] neighbourCount = new int[MOST_HOUSES];
        /** States in the order in which they are come to; above them the first step that led there. */
        private final int[] queue = new int[MOST_STATES];
        private final int[] seen = new int[1 << STATE_BITS - 5];
        private int filled;
        private int goal;
        private int outcome = UNSOLVED;

        Fleet(Town town) {
            this.town = town;
        }

        void set(int carts, int[] at, int[] to) {
            count = Math.min(carts, MOST_CARTS);
            for (int cart = 0; cart < count; cart++) {
                startsAt[cart] = at[cart];
                goesTo[cart] = to[cart];
            }
            forget();
        }

        void forget() {
            outcome = UNSOLVED;
        }

        boolean needsHouse(int least) {
            for (int cart = 0; cart < count; cart++) {
                if (startsAt[cart] >= least || goesTo[cart] >= least) {
                    return true;
                }
            }
            return false;
        }

        /** The fewest steps, NONE or SPENT. */
        int solve() {
            if (outcome == UNSOLVED) {
                search();
            }
            return outcome;
        }

        int firstCart() {
            return firstStep() >> 4;
        }

        int firstHouse() {
            return firstStep() & 15;
        }

        /** The state come to last is the one where all are where they go. */
        private int firstStep() {
            return filled > 0 ? queue[filled - 1] >>> STATE_BITS : 0;
        }

        private void search() {
            listNeighbours();
            for (int i = 0; i < seen.length; i++) {
                seen[i] = 0;
            }
            filled = 0;
            goal = pack(goesTo);
            comeTo(pack(startsAt), 0, 0);
            int step = 1;
            int stepEnd = filled;
            for (int i = 0; i < MOST_STATES && i < filled && outcome == UNSOLVED; i++) {
                if (i == stepEnd) {
                    step++;
                    stepEnd = filled;
                }
                goOn(queue[i], step);
            }
            if (outcome == UNSOLVED) {
                outcome = NONE;
            }
        }

        private void listNeighbours() {
            for (int house = 0; house < MOST_HOUSES; house++) {
                neighbourCount[house] = 0;
            }
            for (int house = 0; house < town.count; house++) {
                for (int other = 0; other < town.count; other++) {
                    if (town.streetBetween(house, other) > 0) {
                        neighbours[house][neighbourCount[house]] = other;
                        neighbourCount[house]++;
                    }
                }
            }
        }

        private int pack(int[] houses) {
            int state = 0;
            for (int cart = 0; cart < count; cart++) {
                state |= houses[cart] << 4 * cart;
            }
            return state;
        }

        private void goOn(int entry, int step) {
            int taken = 0;
            for (int cart = 0; cart < count; cart++) {
                taken |= 1 << (entry >> 4 * cart & 15);
            }
            for (int cart = 0; cart < count; cart++) {
                int shift = 4 * cart;
                int house = entry >> shift & 15;
                int others = entry & (1 << STATE_BITS) - 1 & ~(15 << shift);
                for (int i = 0; house < MOST_HOUSES && i < neighbourCount[house]; i++) {
                    int next = neighbours[house][i];
                    if ((taken >> next & 1) == 0) {
                        int first = step == 1 ? cart << 4 | next : entry >>> STATE_BITS;
                        comeTo(others | next << shift, first, step);
                    }
                }
            }
        }

        private void comeTo(int state, int first, int step) {
            int bit = 1 << (state & 31);
            if (outcome != UNSOLVED || (seen[state >> 5] & bit) != 0) {
                return;
            }
            if (filled == MOST_STATES) {
                outcome = SPENT;
                return;
            }
            seen[state >> 5] |= bit;
            queue[filled] = first << STATE_BITS | state;
            filled++;
            if (state == goal) {
                outcome = step;
            }
        }
    }

    /** Whether towns are alike, and how many are not. */
    private static final class Likeness {
        private Town one;
        private Town other;
        private boolean lengths;
        private final int[] rooted = new int[MOST_HOUSES + 1];

        Likeness(Town town) {
            one = town;
            other = town;
        }

        boolean isLike(Town a, Town b, boolean byLengths) {
            one = a;
            other = b;
            lengths = byLengths;
            return one.count == other.count && (one.count == 0 || countLikeRoots() > 0);
        }

        /** House 0 can be taken for so many; then only like branches at one house change places. */
        long countSelves(Town town, boolean byLengths) {
            one = town;
            other = town;
            lengths = byLengths;
            if (town.count == 0) {
                return 1;
            }
            long ways = countLikeRoots();
            for (int house = 1; house < town.count; house++) {
                ways *= 1 + countLikeAhead(house);
            }
            return ways;
        }

        private int countLikeRoots() {
            int like = 0;
            for (int root = 0; root < other.count; root++) {
                if (isBranchLike(0, NONE, root, NONE, 0)) {
                    like++;
                }
            }
            return like;
        }

        /** Houses of lesser numbers that hang at the same one, with like branches. */
        private int countLikeAhead(int house) {
            int at = one.hangsAt[house];
            int like = 0;
            for (int ahead = 1; ahead < house; ahead++) {
                if (one.hangsAt[ahead] == at && isStreetLike(one.street[ahead], one.street[house])
                        && isBranchLike(ahead, at, house, at, 1)) {
                    like++;
                }
            }
            return like;
        }

        private boolean isStreetLike(int a, int b) {
            return a > 0 && b > 0 && (a == b || !lengths);
        }

        private boolean isBranchLike(int a, int fromA, int b, int fromB, int depth) {
            if (depth > MOST_HOUSES || one.streetsAt(a) != other.streetsAt(b)) {
                return false;
            }
            // Being alike is mutual, so the first like branch that is free is as good as another.
            int used = fromB == NONE ? 0 : 1 << fromB;
            for (int next = 0; next < one.count; next++) {
                int street = one.streetBetween(a, next);
                if (street == 0 || next == fromA) {
                    continue;
                }
                int match = NONE;
                for (int like = 0; like < other.count && match == NONE; like++) {
                    if ((used >> like & 1) == 0
                            && isStreetLike(street, other.streetBetween(b, like))
                            && isBranchLike(next, a, like, b, depth + 1)) {
                        match = like;
                    }
                }
                if (match == NONE) {
                    return false;
                }
                used |= 1 << match;
            }
            return true;
        }

        /** Towns with a house picked out, less those with a street of two unlike ends picked out. */
        int countUnlike(int size) {
            countRooted(size);
            int unlikeEnds = 0;
            for (int part = 1; part < size; part++) {
                unlikeEnds += rooted[part] * rooted[size - part];
            }
            if (size % 2 == 0) {
                unlikeEnds -= rooted[size / 2];
            }
            return rooted[size] - unlikeEnds / 2;
        }

        private void countRooted(int size) {
            rooted[1] = 1;
            for (int n = 1; n < size && n < MOST_HOUSES; n++) {
                int sum = 0;
                for (int k = 1; k <= n; k++) {
                    sum += sumOfDivisors(k) * rooted[n - k + 1];
                }
                rooted[n + 1] = sum / n;
            }
        }

        private int sumOfDivisors(int k) {
            int sum = 0;
            for (int d = 1; d <= k; d++) {
                if (k % d == 0) {
                    sum += d * rooted[d];
                }
            }
            return sum;
        }
    }

    /** Rows of marks, the towns that they tell, and the laws tried on all of these. */
    private static final class Marks {
        static final int LAWS = 3;
        static final int MOST_TRIED = 6;

        private final int[] row = new int[MOST_HOUSES];
        private final int[] streets = new int[MOST_HOUSES];
        private final int[] linked = new int[MOST_HOUSES];
        private final Town trial = new Town();
        private final Ways trialWays = new Ways(trial);
        private final Sets trialSets = new Sets(trial, trialWays);
        /** A law's answer never changes, so it is tried once: one more than the answer, 0 if not yet. */
        private final int[] known = new int[LAWS * (MOST_TRIED + 1)];

        /** Puts down the marks of a town: how many. */
        int tell(Town town, int[] into) {
            for (int house = 0; house < town.count; house++) {
                streets[house] = town.streetsAt(house);
            }
            int filled = 0;
            for (int left = town.count; left > 2; left--) {
                int end = firstEnd(town.count);
                int neighbour = lastNeighbour(town, end);
                streets[end] = 0;
                streets[neighbour]--;
                into[filled] = neighbour;
                filled++;
            }
            return filled;
        }

        private int firstEnd(int count) {
            for (int house = 0; house < count; house++) {
                if (streets[house] == 1) {
                    return house;
                }
            }
            return 0;
        }

        private int lastNeighbour(Town town, int house) {
            for (int other = 0; other < town.count; other++) {
                if (streets[other] > 0 && town.streetBetween(house, other) > 0) {
                    return other;
                }
            }
            return 0;
        }

        boolean take(int n, long marks) {
            for (int i = 0; i < n - 2; i++) {
                row[i] = (int) (marks >> 4 * i & 15);
                if (row[i] >= n) {
                    return false;
                }
            }
            return true;
        }

        /** Makes a town of the row of marks. */
        void plant(int n, Town town) {
            for (int house = 0; house < n; house++) {
                streets[house] = 1;
                linked[house] = 0;
            }
            for (int i = 0; i < n - 2; i++) {
                streets[row[i]]++;
            }
            for (int i = 0; i < n - 2; i++) {
                linkFirstEnd(n, row[i]);
                streets[row[i]]--;
            }
            // Two are left that lack a street: the greater one is house n - 1, which is never taken.
            linkFirstEnd(n, n - 1);
            hangAll(n, town);
        }

        private void linkFirstEnd(int n, int to) {
            int end = firstEnd(n);
            streets[end] = 0;
            linked[end] |= 1 << to;
            linked[to] |= 1 << end;
        }

        private void hangAll(int n, Town town) {
            town.count = n;
            for (int house = 0; house < n; house++) {
                town.hangsAt[house] = NONE;
                town.street[house] = house == 0 ? 0 : 1;
                town.people[house] = 1;
            }
            int hung = 1;
            for (int round = 0; round < n; round++) {
                for (int house = 0; house < n; house++) {
                    if ((hung >> house & 1) != 0) {
                        hung |= hangNext(town, house, linked[house] & ~hung);
                    }
                }
            }
        }

        private static int hangNext(Town town, int house, int next) {
            for (int other = 0; other < town.count; other++) {
                if ((next >> other & 1) != 0) {
                    town.hangsAt[other] = house;
                }
            }
            return next;
        }

        int tryLaw(int law, int n) {
            int place = law * (MOST_TRIED + 1) + n;
            if (known[place] == 0) {
                known[place] = 1 + countBroken(law, n);
            }
            return known[place] - 1;
        }

        private int countBroken(int law, int n) {
            int towns = 1;
            for (int i = 0; i < n - 2; i++) {
                towns *= n;
            }
            int broken = 0;
            for (int number = 0; number < towns; number++) {
                int rest = number;
                for (int i = 0; i < n - 2; i++) {
                    row[i] = rest % n;
                    rest /= n;
                }
                plant(n, trial);
                trialWays.measure();
                if (!holds(law)) {
                    broken++;
                }
            }
            return broken;
        }

        private boolean holds(int law) {
            if (law == 0) {
                return isMiddleOneOrTwo();
            }
            return law == 1 ? areAllFoursLike() : trialSets.leastWardens(1) == wardensByEnds();
        }

        private boolean isMiddleOneOrTwo() {
            int least = trialWays.leastLongest();
            int middles = 0;
            int before = NONE;
            boolean joined = false;
            for (int house = 0; house < trial.count; house++) {
                if (trialWays.longestFrom(house) == least) {
                    middles++;
                    joined = before != NONE && trial.streetBetween(before, house) > 0;
                    before = house;
                }
            }
            return middles == 1 || middles == 2 && joined;
        }

        private boolean areAllFoursLike() {
            for (int mask = 0; mask < 1 << trial.count; mask++) {
                if (Integer.bitCount(mask) == 4 && !isFourLike(trialWays.length, mask)) {
                    return false;
                }
            }
            return true;
        }

        /** Whether of the three sums of four the two greatest are alike. */
        static boolean isFourLike(int[][] length, int mask) {
            int a = Integer.numberOfTrailingZeros(mask);
            int rest = mask & mask - 1;
            int b = Integer.numberOfTrailingZeros(rest);
            rest &= rest - 1;
            int c = Integer.numberOfTrailingZeros(rest);
            rest &= rest - 1;
            int d = Integer.numberOfTrailingZeros(rest);
            if (d >= length.length) {
                return false;
            }
            int one = length[a][b] + length[c][d];
            int two = length[a][c] + length[b][d];
            int three = length[a][d] + length[b][c];
            int greatest = Math.max(one, Math.max(two, three));
            int least = Math.min(one, Math.min(two, three));
            return one + two + three - greatest - least == greatest;
        }

        private int wardensByEnds() {
            int without = (1 << trial.count) - 1;
            int wardens = 0;
            while (without != 0 && wardens < trial.count) {
                int house = farthestOf(without);
                int at = house == 0 ? 0 : trial.hangsAt[house];
                for (int other = 0; other < trial.count; other++) {
                    if (trialWays.length[at][other] <= 1) {
                        without &= ~(1 << other);
                    }
                }
                wardens++;
            }
            return wardens;
        }

        private int farthestOf(int mask) {
            int farthest = NONE;
            for (int house = 0; house < trial.count; house++) {
                boolean in = (mask >> house & 1) != 0;
                if (in && (farthest == NONE
                        || trialWays.length[0][house] > trialWays.length[0][farthest])) {
                    farthest = house;
                }
            }
            return Math.max(farthest, 0);
        }
    }

    /** Distances between doors, told and untold in time. */
    private static final class Doors {
        static final int MOST_DOORS = 6;

        private static final int MOST_TOLD = 40;
        private static final int GREATEST = 999;
        private static final int LONGEST_WAIT = 1000;
        private static final int LAST_TIME = 100000;

        int count;
        int time;
        int mendedPair;
        int mendedTo;
        private final int[] from = new int[MOST_TOLD];
        private final int[] to = new int[MOST_TOLD];
        private final int[] value = new int[MOST_TOLD];
        private final int[] toldAt = new int[MOST_TOLD];
        private final int[] untoldAt = new int[MOST_TOLD];
        private final int[][] known = new int[MOST_DOORS][MOST_DOORS];
        private int low;
        private int high;

        int tell(int a, int b, int so) {
            if (!isDoor(a) || !isDoor(b) || a == b || so < 1 || so > GREATEST
                    || count >= MOST_TOLD) {
                return NONE;
            }
            from[count] = a;
            to[count] = b;
            value[count] = so;
            toldAt[count] = time;
            untoldAt[count] = NONE;
            count++;
            return count - 1;
        }

        private static boolean isDoor(int door) {
            return door >= 0 && door < MOST_DOORS;
        }

        boolean takeBack(int number) {
            if (number < 0 || number >= count || untoldAt[number] != NONE) {
                return false;
            }
            untoldAt[number] = time;
            return true;
        }

        int passTime(int by) {
            if (by < 0 || by > LONGEST_WAIT || time + by > LAST_TIME) {
                return NONE;
            }
            time += by;
            return time;
        }

        /** Takes the distances as known at k: whether n doors are whole. */
        boolean learn(int n, int k) {
            for (int a = 0; a < MOST_DOORS; a++) {
                for (int b = 0; b < MOST_DOORS; b++) {
                    known[a][b] = 0;
                }
            }
            // Told in the order of time, so the later of two takes the place of the earlier.
            for (int i = 0; i < count; i++) {
                boolean untold = untoldAt[i] != NONE && untoldAt[i] <= k;
                if (toldAt[i] <= k && !untold) {
                    known[from[i]][to[i]] = value[i];
                    known[to[i]][from[i]] = value[i];
                }
            }
            return isWhole(n);
        }

        private boolean isWhole(int n) {
            for (int a = 0; a < n; a++) {
                for (int b = 0; b < a; b++) {
                    if (known[a][b] == 0) {
                        return false;
                    }
                }
            }
            return true;
        }

        /** The first three, or else four, that can't be so, as bits; 0 if all can be. */
        int firstWrong(int n) {
            int three = firstWrongWithout(n, 3, 0);
            return three != 0 ? three : firstWrongWithout(n, 4, 0);
        }

        /** Of so many doors the first wrong ones that don't have both of a pair (0: no pair). */
        private int firstWrongWithout(int n, int doors, int pair) {
            for (int mask = 0; mask < 1 << n; mask++) {
                boolean counts = Integer.bitCount(mask) == doors
                        && (pair == 0 || (mask & pair) != pair);
                if (counts && !(doors == 3 ? isThreeRight(mask) : Marks.isFourLike(known, mask))) {
                    return mask;
                }
            }
            return 0;
        }

        private boolean isThreeRight(int mask) {
            int a = Integer.numberOfTrailingZeros(mask);
            int rest = mask & mask - 1;
            int b = Integer.numberOfTrailingZeros(rest);
            int c = Integer.numberOfTrailingZeros(rest & rest - 1);
            if (c >= MOST_DOORS) {
                return false;
            }
            int together = known[a][b] + known[a][c] + known[b][c];
            int greatest = Math.max(known[a][b], Math.max(known[a][c], known[b][c]));
            return 2 * greatest <= together;
        }

        /** Finds the first pair that can be mended alone, and to what. */
        boolean mend(int n) {
            for (int a = 0; a < n; a++) {
                for (int b = a + 1; b < n; b++) {
                    if (canMend(a, b, n)) {
                        mendedPair = 10 * a + b;
                        // Those that do lie side by side, so the nearest is at an end of them.
                        mendedTo = known[a][b] < low ? low : high;
                        return true;
                    }
                }
            }
            return false;
        }

        private boolean canMend(int a, int b, int n) {
            int pair = 1 << a | 1 << b;
            if (firstWrongWithout(n, 3, pair) != 0 || firstWrongWithout(n, 4, pair) != 0) {
                return false;
            }
            low = 1;
            high = GREATEST;
            for (int c = 0; c < n; c++) {
                if (c != a && c != b) {
                    boundByThird(a, b, c);
                    for (int d = c + 1; d < n; d++) {
                        if (d != a && d != b) {
                            boundByTwo(a, b, c, d);
                        }
                    }
                }
            }
            return low <= high;
        }

        private void boundByThird(int a, int b, int c) {
            low = Math.max(low, Math.abs(known[a][c] - known[b][c]));
            high = Math.min(high, known[a][c] + known[b][c]);
        }

        /** With unlike other sums the pair's own must be the greater; with like ones not above. */
        private void boundByTwo(int a, int b, int c, int d) {
            int one = known[a][c] + known[b][d];
            int two = known[a][d] + known[b][c];
            int most = Math.max(one, two) - known[c][d];
            high = Math.min(high, most);
            if (one != two) {
                low = Math.max(low, most);
            }
        }
    }
}
