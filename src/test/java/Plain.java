import java.util.ArrayDeque;
import java.util.ArrayList;
import java.util.Arrays;
import java.util.HashMap;
import java.util.HashSet;
import java.util.List;
import java.util.Map;
import java.util.Set;
import java.util.TreeSet;
import java.util.regex.Matcher;
import java.util.regex.Pattern;

/**
 * The whole document told a second time, by other means than the program's: every state is a copy,
 * every best one is found by trying all. RunsTest holds the program against it, call by call, so the
 * methods have the names and parameters of the document's face. Where the document leaves room it
 * has the program's reading (NOTES.md).
 */
public final class Plain {
    private static final int NONE = -1;
    private static final int ENDLESS = 1_000_000;

    /** A town at one moment. */
    private record State(int[] at, int[] len, int[] folk, int seed) {
        int n() {
            return at.length;
        }

        State with(int house, int newAt, int newFolk) {
            int[] ats = at.clone();
            int[] folks = folk.clone();
            ats[house] = newAt;
            folks[house] = newFolk;
            return new State(ats, len, folks, seed);
        }

        State larger(int newAt, int newLen, int newFolk) {
            int[] ats = Arrays.copyOf(at, n() + 1);
            int[] lens = Arrays.copyOf(len, n() + 1);
            int[] folks = Arrays.copyOf(folk, n() + 1);
            ats[n()] = newAt;
            lens[n()] = newLen;
            folks[n()] = newFolk;
            return new State(ats, lens, folks, seed);
        }

        State seeded(int newSeed) {
            return new State(at, len, folk, newSeed);
        }

        /** Streets' lengths, 0 where there is none. */
        int[][] streets() {
            int[][] streets = new int[n()][n()];
            for (int house = 1; house < n(); house++) {
                streets[house][at[house]] = len[house];
                streets[at[house]][house] = len[house];
            }
            return streets;
        }
    }

    private record Distance(int a, int b, int so, int told, int untold) {
    }

    private record Token(String text, int place, char kind) {
    }

    private static final class Fault extends RuntimeException {
        private static final long serialVersionUID = 1;
        final int what;
        final int place;

        Fault(int what, int place) {
            this.what = what;
            this.place = place;
        }
    }

    private static final State NOTHING = new State(new int[0], new int[0], new int[0], 0);
    private static final Map<Integer, Integer> TRIED = new HashMap<>();
    private static final List<Integer> UNLIKE = new ArrayList<>();

    private final StringBuilder tape = new StringBuilder();
    private State now = NOTHING;
    private final ArrayDeque<State> past = new ArrayDeque<>();
    private final ArrayDeque<State> future = new ArrayDeque<>();
    private final State[] boxes = new State[3];
    private List<int[]> carts = new ArrayList<>();
    private List<Integer> there = new ArrayList<>();
    private final List<Distance> distances = new ArrayList<>();
    private int time;
    private int fault;
    private int faultPlace = NONE;

    // ---- Promises 2 to 5

    public int feed(int a, int b, int c, int d, int e) {
        if (tape.length() > 1180) {
            return NONE;
        }
        for (long number : new int[] {a, b, c, d, e}) {
            long bits = number & 0xffffffffL;
            tape.append((char) (bits / 16777216)).append((char) (bits / 65536 % 256));
            tape.append((char) (bits / 256 % 256)).append((char) (bits % 256));
        }
        return tape.length();
    }

    public int end(int n) {
        if (n < 0 || tape.length() < n) {
            return NONE;
        }
        tape.setLength(n);
        return n;
    }

    public int town() {
        try {
            Reading reading = new Reading(tape.toString());
            reading.all();
            now = reading.town;
            carts = reading.carts;
        } catch (Fault found) {
            fault = found.what;
            faultPlace = found.place;
            return NONE;
        }
        fault = 0;
        faultPlace = NONE;
        tape.setLength(0);
        past.clear();
        future.clear();
        distances.clear();
        there.clear();
        Arrays.fill(boxes, null);
        return now.n();
    }

    public int fault(int what) {
        return what == 0 ? fault : what == 1 ? faultPlace : NONE;
    }

    private static final class Reading {
        private static final Set<String> OWN = Set.of("house", "at", "street", "people", "cart", "to", "draw");
        private static final Pattern NEXT =
                Pattern.compile("[ \n]*+(?:([a-z]{1,8}+)(?![a-z])|([0-9]{1,4}+)(?![0-9a-z])|(;)|(.)|$)", Pattern.DOTALL);

        State town = NOTHING;
        final List<int[]> carts = new ArrayList<>();
        private final List<Token> tokens = new ArrayList<>();
        private int next;
        private final List<String> houseNames = new ArrayList<>();
        private final List<String> cartNames = new ArrayList<>();

        Reading(String text) {
            Matcher matcher = NEXT.matcher(text);
            char kind = ' ';
            while (kind != 'E' && kind != 'X' && matcher.lookingAt()) {
                String word = matcher.group(1);
                kind = word != null ? OWN.contains(word) ? 'K' : 'W' : matcher.group(2) != null ? 'N'
                        : matcher.group(3) != null ? 'K' : matcher.group(4) != null ? 'X' : 'E';
                String found = matcher.group(0).replaceAll("^[ \n]*", "");
                tokens.add(new Token(found, matcher.end() - found.length(), kind));
                matcher.region(matcher.end(), text.length()).useTransparentBounds(true);
            }
        }

        void all() {
            int draws = 0;
            while (tokens.get(next).kind != 'E') {
                Token first = tokens.get(next);
                boolean tooMany = first.text.equals("house") && houseNames.size() == 14
                        || first.text.equals("cart") && cartNames.size() == 4 || first.text.equals("draw") && draws == 1;
                if (first.kind != 'K' || tooMany || !List.of("house", "cart", "draw").contains(first.text)) {
                    throw cant();
                }
                next++;
                if (first.text.equals("house")) {
                    house();
                } else if (first.text.equals("cart")) {
                    cart();
                } else {
                    draws++;
                    town = town.seeded(number(0, 999));
                }
                own(";");
            }
        }

        private void house() {
            String name = newName(houseNames);
            int at = NONE;
            int street = 0;
            if (!houseNames.isEmpty()) {
                own("at");
                at = told();
                next++;
                own("street");
                street = number(1, 99);
            }
            int folk = 1;
            if (tokens.get(next).text.equals("people")) {
                next++;
                folk = number(0, 99);
            }
            houseNames.add(name);
            town = town.larger(at, street, folk);
        }

        private void cart() {
            String name = newName(cartNames);
            own("at");
            int at = told();
            for (int[] other : carts) {
                check(3, other[0] != at);
            }
            next++;
            own("to");
            int to = told();
            check(3, to != at);
            for (int[] other : carts) {
                check(3, other[1] != to);
            }
            next++;
            cartNames.add(name);
            carts.add(new int[] {at, to});
        }

        private Fault cant() {
            Token token = tokens.get(next);
            return new Fault(token.kind == 'X' ? 1 : 2, token.place);
        }

        private void check(int what, boolean good) {
            if (!good) {
                throw new Fault(what, tokens.get(next).place);
            }
        }

        private void own(String word) {
            if (tokens.get(next).kind != 'K' || !tokens.get(next).text.equals(word)) {
                throw cant();
            }
            next++;
        }

        private int number(int least, int most) {
            if (tokens.get(next).kind != 'N') {
                throw cant();
            }
            int number = Integer.parseInt(tokens.get(next).text);
            check(4, number >= least && number <= most);
            next++;
            return number;
        }

        private String newName(List<String> names) {
            if (tokens.get(next).kind != 'W') {
                throw cant();
            }
            String name = tokens.get(next).text;
            check(3, !names.contains(name));
            next++;
            return name;
        }

        private int told() {
            if (tokens.get(next).kind != 'W') {
                throw cant();
            }
            int house = houseNames.indexOf(tokens.get(next).text);
            check(5, house >= 0);
            return house;
        }
    }

    // ---- Promises 6 to 11, 26, 35

    private boolean no(int house) {
        return house < 0 || house >= now.n();
    }

    public int house(int house, int what) {
        if (no(house) || what < 0 || what > 3) {
            return -2;
        }
        int streets = 0;
        for (int street : now.streets()[house]) {
            streets += street > 0 ? 1 : 0;
        }
        return new int[] {now.at[house], now.len[house], now.folk[house], streets}[what];
    }

    /** All ways' lengths, by trying every house on the way; ENDLESS where there is none. */
    private static int[][] ways(int[][] streets) {
        int n = streets.length;
        int[][] ways = new int[n][n];
        for (int a = 0; a < n; a++) {
            for (int b = 0; b < n; b++) {
                ways[a][b] = a == b ? 0 : streets[a][b] > 0 ? streets[a][b] : ENDLESS;
            }
        }
        for (int by = 0; by < n; by++) {
            for (int a = 0; a < n; a++) {
                for (int b = 0; b < n; b++) {
                    ways[a][b] = Math.min(ways[a][b], ways[a][by] + ways[by][b]);
                }
            }
        }
        return ways;
    }

    private int[][] ways() {
        return ways(now.streets());
    }

    private static int most(int[] row) {
        int most = 0;
        for (int number : row) {
            most = Math.max(most, number);
        }
        return most;
    }

    public int way(int a, int b) {
        there = new ArrayList<>();
        if (no(a) || no(b)) {
            return NONE;
        }
        int[][] ways = ways();
        // Those on the way are the houses by which it is not longer.
        TreeSet<Integer> far = new TreeSet<>();
        Map<Integer, Integer> who = new HashMap<>();
        for (int house = 0; house < now.n(); house++) {
            if (ways[a][house] + ways[house][b] == ways[a][b]) {
                far.add(ways[a][house]);
                who.put(ways[a][house], house);
            }
        }
        for (int distance : far) {
            there.add(who.get(distance));
        }
        return ways[a][b];
    }

    public int far(int house) {
        return no(house) ? NONE : most(ways()[house]);
    }

    public int farthest(int what) {
        if (now.n() < 2 || what < 0 || what > 2) {
            return NONE;
        }
        int[][] ways = ways();
        int[] best = {0, 0, 0};
        for (int a = 0; a < now.n(); a++) {
            for (int b = a + 1; b < now.n(); b++) {
                if (ways[a][b] > best[2]) {
                    best = new int[] {a, b, ways[a][b]};
                }
            }
        }
        return best[what];
    }

    public int middle(int sort) {
        if (now.n() == 0 || sort < 0 || sort > 2) {
            return NONE;
        }
        int[][] ways = ways();
        int best = 0;
        long least = Long.MAX_VALUE;
        for (int house = 0; house < now.n(); house++) {
            long cost = 0;
            if (sort == 0) {
                cost = most(ways[house]);
            } else if (sort == 1) {
                for (int other = 0; other < now.n(); other++) {
                    cost += (long) ways[house][other] * now.folk[other];
                }
            } else {
                for (int quarter : cutOff(house)) {
                    cost = Math.max(cost, quarter);
                }
            }
            if (cost < least) {
                least = cost;
                best = house;
            }
        }
        return best;
    }

    /** What can be come to from a house when another one is closed. */
    private static int flood(int[][] streets, int from, int closed) {
        int mask = 1 << from;
        for (int round = 0; round < streets.length; round++) {
            for (int a = 0; a < streets.length; a++) {
                for (int b = 0; b < streets.length; b++) {
                    if ((mask >> a & 1) == 1 && streets[a][b] > 0 && b != closed) {
                        mask |= 1 << b;
                    }
                }
            }
        }
        return mask;
    }

    private List<Integer> cutOff(int house) {
        int[][] streets = now.streets();
        List<Integer> quarters = new ArrayList<>();
        for (int neighbour = 0; neighbour < now.n(); neighbour++) {
            if (streets[house][neighbour] > 0) {
                int mask = flood(streets, neighbour, house);
                int folk = 0;
                for (int other = 0; other < now.n(); other++) {
                    folk += (mask >> other & 1) * now.folk[other];
                }
                quarters.add(folk);
            }
        }
        return quarters;
    }

    public int quarters(int house) {
        there = no(house) ? new ArrayList<>() : cutOff(house);
        return no(house) ? NONE : there.size();
    }

    public int post(int house, boolean home) {
        if (no(house)) {
            return NONE;
        }
        int n = now.n();
        if (n > 8) {
            int sum = 2 * Arrays.stream(now.len).sum();
            return home ? sum : sum - far(house);
        }
        // The state is where the postman is and which streets (by the house that hangs) he has gone.
        int all = (1 << n) - 2;
        int[][] least = new int[n][1 << n];
        for (int[] row : least) {
            Arrays.fill(row, ENDLESS);
        }
        least[house][0] = 0;
        for (boolean better = true; better;) {
            better = false;
            for (int mask = 0; mask <= all; mask += 2) {
                for (int street = 1; street < n; street++) {
                    int then = mask | 1 << street;
                    int up = now.at[street];
                    better |= lower(least, up, then, least[street][mask] + now.len[street]);
                    better |= lower(least, street, then, least[up][mask] + now.len[street]);
                }
            }
        }
        int best = ENDLESS;
        for (int end = 0; end < n; end++) {
            best = home && end != house ? best : Math.min(best, least[end][all < 0 ? 0 : all]);
        }
        return best;
    }

    private static boolean lower(int[][] least, int house, int mask, int cost) {
        if (cost >= least[house][mask]) {
            return false;
        }
        least[house][mask] = cost;
        return true;
    }

    public int joined(int house, int what) {
        if (no(house) || house == 0 || what < 0 || what > 2) {
            return NONE;
        }
        int[][] streets = now.streets();
        streets[house][now.at[house]] = 0;
        streets[now.at[house]][house] = 0;
        int part = flood(streets, house, NONE);
        int[] best = {ENDLESS, 0, 0};
        for (int inner = 0; inner < now.n(); inner++) {
            for (int outer = 0; outer < now.n(); outer++) {
                if ((part >> inner & 1) == 0 || (part >> outer & 1) == 1) {
                    continue;
                }
                streets[inner][outer] = now.len[house];
                streets[outer][inner] = now.len[house];
                int longest = 0;
                for (int[] row : ways(streets)) {
                    longest = Math.max(longest, most(row));
                }
                if (longest < best[0]) {
                    best = new int[] {longest, inner, outer};
                }
                streets[inner][outer] = 0;
                streets[outer][inner] = 0;
            }
        }
        return best[what];
    }

    // ---- Promises 12 to 17, 33, 42, 43

    private void act(State then) {
        past.addLast(now);
        if (past.size() > 40) {
            past.removeFirst();
        }
        future.clear();
        now = then;
    }

    public int grow(int at, int street, int people) {
        if (no(at) || street < 1 || street > 99 || people < 0 || people > 99 || now.n() == 14) {
            return NONE;
        }
        act(now.larger(at, street, people));
        return now.n() - 1;
    }

    public boolean move(int house, int at) {
        if (no(house) || no(at) || house == 0 || at == house) {
            return false;
        }
        // Behind it are the houses whose way from house 0 goes by it.
        int[][] ways = ways();
        if (ways[0][house] + ways[house][at] == ways[0][at]) {
            return false;
        }
        act(now.with(house, at, now.folk[house]));
        return true;
    }

    public int live(int house, int people) {
        if (no(house) || people < 0 || people > 99) {
            return NONE;
        }
        int before = now.folk[house];
        act(now.with(house, now.at[house], people));
        return before;
    }

    public int years(int n) {
        if (n < 0 || n > 50 || now.n() == 0) {
            return NONE;
        }
        State then = now;
        for (int year = 0; year < n; year++) {
            then = nextYear(then);
        }
        act(then);
        return now.n();
    }

    private static State nextYear(State before) {
        int seed = (before.seed * 137 + 71) % 1000;
        State then = before.seeded(seed);
        int n = then.n();
        int rest = seed % n;
        if (seed % 4 != 0) {
            return n < 14 ? then.larger(rest, 1 + seed % 9, seed % 5)
                    : then.with(rest, then.at[rest], Math.min(99, then.folk[rest] + 1));
        }
        int burning = NONE;
        int[][] streets = then.streets();
        for (int house = 0; house < n; house++) {
            if (Arrays.stream(streets[house]).filter(street -> street > 0).count() == 1) {
                burning = house;
            }
        }
        return burning == NONE ? then : then.with(burning, then.at[burning], 0);
    }

    public boolean grown(int n, long marks) {
        if (n < 2 || n > 14) {
            return false;
        }
        List<Integer> row = new ArrayList<>();
        for (int i = 0; i < n - 2; i++) {
            row.add((int) (marks >>> 4 * i) & 15);
        }
        boolean missing = row.stream().anyMatch(mark -> mark >= n)
                || carts.stream().anyMatch(cart -> cart[0] >= n || cart[1] >= n);
        if (missing) {
            return false;
        }
        act(hung(unfold(n, row), now.seed));
        return true;
    }

    /** The streets of a row of marks: the least house that is not marked any more goes first. */
    private static int[][] unfold(int n, List<Integer> row) {
        int[][] streets = new int[n][n];
        TreeSet<Integer> left = new TreeSet<>();
        for (int house = 0; house < n; house++) {
            left.add(house);
        }
        for (int i = 0; i < row.size(); i++) {
            List<Integer> still = row.subList(i, row.size());
            int end = left.stream().filter(house -> !still.contains(house)).findFirst().orElseThrow();
            left.remove(end);
            streets[end][row.get(i)] = 1;
            streets[row.get(i)][end] = 1;
        }
        streets[left.first()][left.last()] = 1;
        streets[left.last()][left.first()] = 1;
        return streets;
    }

    /** Each house hangs at its neighbour that is nearer to house 0. */
    private static State hung(int[][] streets, int seed) {
        int n = streets.length;
        int[][] ways = ways(streets);
        int[] at = new int[n];
        int[] len = new int[n];
        int[] folk = new int[n];
        Arrays.fill(folk, 1);
        at[0] = NONE;
        for (int house = 1; house < n; house++) {
            for (int other = 0; other < n; other++) {
                if (streets[house][other] > 0 && ways[0][other] < ways[0][house]) {
                    at[house] = other;
                    len[house] = streets[house][other];
                }
            }
        }
        return new State(at, len, folk, seed);
    }

    public boolean undo() {
        if (past.isEmpty()) {
            return false;
        }
        future.addLast(now);
        now = past.removeLast();
        return true;
    }

    public boolean redo() {
        if (future.isEmpty()) {
            return false;
        }
        past.addLast(now);
        now = future.removeLast();
        return true;
    }

    public int image(int box) {
        if (box < 0 || box > 2) {
            return NONE;
        }
        boxes[box] = now;
        return now.n();
    }

    public int back(int box) {
        if (box < 0 || box > 2 || boxes[box] == null) {
            return NONE;
        }
        now = boxes[box];
        past.clear();
        future.clear();
        return now.n();
    }

    // ---- Promises 18 to 25, 27

    /** Whether a set comes before another one: it has the first house by which they differ. */
    private static boolean before(int a, int b) {
        return (a & Integer.lowestOneBit(a ^ b)) != 0;
    }

    /** Of each house those that are not farther than d. */
    private static int[] within(int[][] ways, int d) {
        int[] masks = new int[ways.length];
        for (int a = 0; a < ways.length; a++) {
            for (int b = 0; b < ways.length; b++) {
                masks[a] |= ways[a][b] <= d ? 1 << b : 0;
            }
        }
        return masks;
    }

    private static boolean meetsAll(int mask, int[] masks) {
        for (int each : masks) {
            if ((each & mask) == 0) {
                return false;
            }
        }
        return true;
    }

    /** The first of the smallest sets that have one of each mask. */
    private static int fewest(int[] masks, int n) {
        int best = (1 << n) - 1;
        for (int mask = 0; mask < 1 << n; mask++) {
            int more = Integer.bitCount(mask) - Integer.bitCount(best);
            if ((more < 0 || more == 0 && before(mask, best)) && meetsAll(mask, masks)) {
                best = mask;
            }
        }
        return best;
    }

    public int wardens(int d) {
        return d < 0 || d > 999 ? NONE : fewest(within(ways(), d), now.n());
    }

    private static boolean apart(int mask, int[][] streets) {
        for (int a = 0; a < streets.length; a++) {
            for (int b = 0; b < a; b++) {
                if (streets[a][b] > 0 && (mask >> a & mask >> b & 1) == 1) {
                    return false;
                }
            }
        }
        return true;
    }

    public int quiet() {
        int best = 0;
        int most = 0;
        int[][] streets = now.streets();
        for (int mask = 0; mask < 1 << now.n(); mask++) {
            int folk = 0;
            for (int house = 0; house < now.n(); house++) {
                folk += (mask >> house & 1) * now.folk[house];
            }
            if ((folk > most || folk == most && before(mask, best)) && apart(mask, streets)) {
                best = mask;
                most = folk;
            }
        }
        return best;
    }

    private int[] streetEnds() {
        int[] ends = new int[Math.max(0, now.n() - 1)];
        for (int house = 1; house < now.n(); house++) {
            ends[house - 1] = 1 << house | 1 << now.at[house];
        }
        return ends;
    }

    public int guards() {
        return fewest(streetEnds(), now.n());
    }

    public int wells(int k) {
        there = new ArrayList<>();
        if (k < 1 || k > 4 || now.n() == 0) {
            return NONE;
        }
        int[][] ways = ways();
        int d = 0;
        while (!someOf(within(ways, d), k)) {
            d++;
        }
        lay(wardens(d));
        return d;
    }

    private boolean someOf(int[] masks, int k) {
        for (int mask = 0; mask < 1 << now.n(); mask++) {
            if (Integer.bitCount(mask) <= k && meetsAll(mask, masks)) {
                return true;
            }
        }
        return false;
    }

    private void lay(int mask) {
        for (int house = 0; house < now.n(); house++) {
            if ((mask >> house & 1) == 1) {
                there.add(house);
            }
        }
    }

    public int shops(int k) {
        there = new ArrayList<>();
        if (k < 1 || k > 4 || now.n() == 0) {
            return NONE;
        }
        int[][] ways = ways();
        int best = 0;
        int least = Integer.MAX_VALUE;
        for (int mask = 0; mask < 1 << now.n(); mask++) {
            if (Integer.bitCount(mask) == Math.min(k, now.n())) {
                int sum = 0;
                for (int house = 0; house < now.n(); house++) {
                    int nearest = ENDLESS;
                    for (int shop = 0; shop < now.n(); shop++) {
                        nearest = (mask >> shop & 1) == 1 ? Math.min(nearest, ways[house][shop]) : nearest;
                    }
                    sum += nearest * now.folk[house];
                }
                if (sum < least || sum == least && before(mask, best)) {
                    least = sum;
                    best = mask;
                }
            }
        }
        lay(best);
        return least;
    }

    public int counted(int what) {
        if (what < 0 || what > 3) {
            return NONE;
        }
        int[][] streets = now.streets();
        int[] ends = streetEnds();
        int count = 0;
        for (int mask = 0; mask < 1 << (what == 3 ? ends.length : now.n()); mask++) {
            boolean counts;
            if (what == 0) {
                counts = apart(mask, streets);
            } else if (what == 1) {
                counts = meetsAll(mask, ends);
            } else if (what == 2) {
                counts = mask != 0 && together(mask, streets);
            } else {
                int used = 0;
                counts = true;
                for (int street = 0; street < ends.length; street++) {
                    if ((mask >> street & 1) == 1) {
                        counts &= (used & ends[street]) == 0;
                        used |= ends[street];
                    }
                }
            }
            count += counts ? 1 : 0;
        }
        return count;
    }

    private static boolean together(int mask, int[][] streets) {
        int reached = Integer.lowestOneBit(mask);
        for (int before = 0; before != reached;) {
            before = reached;
            for (int a = 0; a < streets.length; a++) {
                for (int b = 0; b < streets.length; b++) {
                    boolean on = (reached >> a & 1) == 1 && (mask >> b & 1) == 1 && streets[a][b] > 0;
                    reached |= on ? 1 << b : 0;
                }
            }
        }
        return reached == mask;
    }

    // ---- Promises 21, 22, 27

    private int hours(int house, int from, boolean byLength) {
        int[][] streets = now.streets();
        List<Integer> needs = new ArrayList<>();
        for (int other = 0; other < now.n(); other++) {
            if (streets[house][other] > 0 && other != from) {
                needs.add((byLength ? streets[house][other] : 1) + hours(other, house, byLength));
            }
        }
        // All orders: the least for the neighbours told so far, whichever of them was told last.
        int[] least = new int[1 << needs.size()];
        for (int mask = 1; mask < least.length; mask++) {
            least[mask] = ENDLESS;
            for (int last = 0; last < needs.size(); last++) {
                if ((mask >> last & 1) == 1) {
                    int end = Integer.bitCount(mask) - 1 + needs.get(last);
                    least[mask] = Math.min(least[mask], Math.max(least[mask & ~(1 << last)], end));
                }
            }
        }
        return least[least.length - 1];
    }

    public int news(int house) {
        return no(house) ? NONE : hours(house, NONE, false);
    }

    public int tidings(int house) {
        return no(house) ? NONE : hours(house, NONE, true);
    }

    public int bestNews() {
        int best = NONE;
        for (int house = now.n() - 1; house >= 0; house--) {
            best = best == NONE || news(house) <= news(best) ? house : best;
        }
        return best;
    }

    // ---- Promise 28

    private List<List<Integer>> nextStates(List<Integer> state, int[][] streets) {
        List<List<Integer>> next = new ArrayList<>();
        for (int cart = 0; cart < state.size(); cart++) {
            for (int house = 0; house < now.n(); house++) {
                if (streets[state.get(cart)][house] > 0 && !state.contains(house)) {
                    List<Integer> then = new ArrayList<>(state);
                    then.set(cart, house);
                    next.add(then);
                }
            }
        }
        return next;
    }

    /** All states that can be come to, in that order, each with its steps. */
    private Map<List<Integer>, Integer> comeTo(List<Integer> first) {
        int[][] streets = now.streets();
        Map<List<Integer>, Integer> steps = new java.util.LinkedHashMap<>();
        ArrayDeque<List<Integer>> queue = new ArrayDeque<>();
        steps.put(first, 0);
        queue.add(first);
        while (!queue.isEmpty()) {
            List<Integer> state = queue.remove();
            for (List<Integer> then : nextStates(state, streets)) {
                if (steps.putIfAbsent(then, steps.get(state) + 1) == null) {
                    queue.add(then);
                }
            }
        }
        return steps;
    }

    public int carts(int what) {
        if (what < 0 || what > 2) {
            return -3;
        }
        List<Integer> first = carts.stream().map(cart -> cart[0]).toList();
        List<Integer> goal = carts.stream().map(cart -> cart[1]).toList();
        Map<List<Integer>, Integer> steps = comeTo(first);
        int place = new ArrayList<>(steps.keySet()).indexOf(goal);
        if (steps.size() > 20000 && (place < 0 || place >= 20000)) {
            return -2;
        }
        if (place < 0) {
            return NONE;
        }
        if (what == 0 || place == 0) {
            return what == 0 ? steps.get(goal) : NONE;
        }
        // A street can be gone both ways, so from the goal it is as far as to it.
        Map<List<Integer>, Integer> left = comeTo(goal);
        for (List<Integer> then : nextStates(first, now.streets())) {
            if (left.get(then) == left.get(first) - 1) {
                int cart = 0;
                while (then.get(cart).equals(first.get(cart))) {
                    cart++;
                }
                return what == 1 ? cart : then.get(cart);
            }
        }
        throw new IllegalStateException("no first step");
    }

    // ---- Promises 29 to 32, 34

    /** Whether the houses from the place on can be taken for others, those ahead being settled. */
    private static boolean fits(int[][] a, int[][] b, int[] taken, int place, boolean lengths, int fixed) {
        if (place == a.length) {
            return true;
        }
        for (int house = 0; house < b.length; house++) {
            int want = place < fixed ? place : place == fixed && taken[place] >= 0 ? taken[place] : house;
            if (want != house) {
                continue;
            }
            boolean good = true;
            for (int other = 0; other < place && good; other++) {
                int one = a[place][other];
                int two = b[house][taken[other]];
                good = taken[other] != house && (lengths ? one == two : one > 0 == two > 0);
            }
            int kept = taken[place];
            taken[place] = house;
            if (good && fits(a, b, taken, place + 1, lengths, fixed)) {
                return true;
            }
            taken[place] = kept;
        }
        return false;
    }

    /** The houses numbered anew, so that each has a neighbour ahead of it: trying ends sooner. */
    private static int[][] sorted(int[][] streets) {
        List<Integer> order = new ArrayList<>();
        for (int i = 0; i < streets.length; i++) {
            if (i == 0) {
                order.add(0);
            }
            for (int house = 1; house < streets.length; house++) {
                if (streets[order.get(i)][house] > 0 && !order.contains(house)) {
                    order.add(house);
                }
            }
        }
        int[][] anew = new int[streets.length][streets.length];
        for (int a = 0; a < streets.length; a++) {
            for (int b = 0; b < streets.length; b++) {
                anew[a][b] = streets[order.get(a)][order.get(b)];
            }
        }
        return anew;
    }

    public int alike(int box, boolean lengths) {
        if (box < 0 || box > 2 || boxes[box] == null) {
            return NONE;
        }
        int[] taken = new int[now.n()];
        Arrays.fill(taken, NONE);
        boolean like = now.n() == boxes[box].n()
                && fits(sorted(now.streets()), boxes[box].streets(), taken, 0, lengths, NONE);
        return like ? 1 : 0;
    }

    /** So many as house 0 can be taken for, times those for the next with house 0 settled, and so on. */
    public long selves(boolean lengths) {
        int[][] streets = sorted(now.streets());
        long ways = 1;
        for (int house = 0; house < now.n(); house++) {
            int images = 0;
            for (int image = 0; image < now.n(); image++) {
                int[] taken = new int[now.n()];
                Arrays.fill(taken, NONE);
                taken[house] = image;
                images += fits(streets, streets, taken, 0, lengths, house) ? 1 : 0;
            }
            ways *= images;
        }
        return ways;
    }

    public int unlike(int size) {
        if (size < 1 || size > 14) {
            return NONE;
        }
        if (UNLIKE.isEmpty()) {
            countUnlike();
        }
        return UNLIKE.get(size - 1);
    }

    /** All towns of a size come from those of one house less; the folded marks tell them apart. */
    private static void countUnlike() {
        Map<String, int[][]> towns = new HashMap<>(Map.of("()", new int[1][1]));
        for (int size = 1; size <= 14; size++) {
            UNLIKE.add(towns.size());
            Map<String, int[][]> larger = new HashMap<>();
            for (int[][] streets : towns.values()) {
                for (int at = 0; at < size; at++) {
                    int[][] then = new int[size + 1][];
                    for (int house = 0; house < size; house++) {
                        then[house] = Arrays.copyOf(streets[house], size + 1);
                    }
                    then[size] = new int[size + 1];
                    then[size][at] = 1;
                    then[at][size] = 1;
                    String least = null;
                    for (int root = 0; root <= size; root++) {
                        String folded = fold(then, root, NONE);
                        least = least == null || folded.compareTo(least) < 0 ? folded : least;
                    }
                    larger.put(least, then);
                }
            }
            towns = larger;
        }
    }

    private static String fold(int[][] streets, int house, int from) {
        List<String> parts = new ArrayList<>();
        for (int other = 0; other < streets.length; other++) {
            if (streets[house][other] > 0 && other != from) {
                parts.add(fold(streets, other, house));
            }
        }
        parts.sort(null);
        return "(" + String.join("", parts) + ")";
    }

    public int marks() {
        there = new ArrayList<>();
        int[][] streets = now.streets();
        for (int left = now.n(); left > 2; left--) {
            for (int house = 0; house < now.n(); house++) {
                int[] row = streets[house];
                if (Arrays.stream(row).filter(street -> street > 0).count() == 1) {
                    int neighbour = 0;
                    while (row[neighbour] == 0) {
                        neighbour++;
                    }
                    there.add(neighbour);
                    row[neighbour] = 0;
                    streets[neighbour][house] = 0;
                    break;
                }
            }
        }
        return there.size();
    }

    public int tried(int law, int n) {
        if (law < 0 || law > 2 || n < 2 || n > 6) {
            return NONE;
        }
        return TRIED.computeIfAbsent(law * 10 + n, key -> broken(law, n, new ArrayList<>()));
    }

    private static int broken(int law, int n, List<Integer> row) {
        if (row.size() == n - 2) {
            return holds(law, hung(unfold(n, row), 0)) ? 0 : 1;
        }
        int sum = 0;
        for (int mark = 0; mark < n; mark++) {
            List<Integer> longer = new ArrayList<>(row);
            longer.add(mark);
            sum += broken(law, n, longer);
        }
        return sum;
    }

    private static boolean holds(int law, State town) {
        int[][] ways = ways(town.streets());
        int n = town.n();
        if (law == 0) {
            int least = Arrays.stream(ways).mapToInt(Plain::most).min().orElse(0);
            List<Integer> middles = new ArrayList<>();
            for (int house = 0; house < n; house++) {
                if (most(ways[house]) == least) {
                    middles.add(house);
                }
            }
            return middles.size() == 1 || middles.size() == 2 && ways[middles.get(0)][middles.get(1)] == 1;
        }
        if (law == 1) {
            return wrongOf(ways, n, 4) == 0;
        }
        Set<Integer> without = new HashSet<>();
        for (int house = 0; house < n; house++) {
            without.add(house);
        }
        int wardens = 0;
        while (!without.isEmpty()) {
            int far = NONE;
            for (int house = n - 1; house >= 0; house--) {
                far = without.contains(house) && (far == NONE || ways[0][house] >= ways[0][far]) ? house : far;
            }
            int warden = far == 0 ? 0 : town.at[far];
            wardens++;
            without.removeIf(house -> ways[warden][house] <= 1);
        }
        return wardens == Integer.bitCount(fewest(within(ways, 1), n));
    }

    // ---- Promise 36 to 41

    public int lies(int i) {
        return i < 0 || i >= there.size() ? NONE : there.get(i);
    }

    public int distance(int a, int b, int so) {
        boolean doors = a >= 0 && a <= 5 && b >= 0 && b <= 5 && a != b;
        if (!doors || so < 1 || so > 999 || distances.size() == 40) {
            return NONE;
        }
        distances.add(new Distance(a, b, so, time, Integer.MAX_VALUE));
        return distances.size() - 1;
    }

    public boolean untell(int distance) {
        if (distance < 0 || distance >= distances.size()) {
            return false;
        }
        Distance old = distances.get(distance);
        if (old.untold != Integer.MAX_VALUE) {
            return false;
        }
        distances.set(distance, new Distance(old.a, old.b, old.so, old.told, time));
        return true;
    }

    public int later(int by) {
        if (by < 0 || by > 1000 || time > 100000 - by) {
            return NONE;
        }
        time += by;
        return time;
    }

    /** What is known at a time, null if it is not whole. */
    private int[][] known(int n, int k) {
        int[][] known = new int[n][n];
        for (int a = 0; a < n; a++) {
            for (int b = 0; b < n; b++) {
                for (Distance each : distances) {
                    boolean same = each.a == a && each.b == b || each.a == b && each.b == a;
                    boolean gone = each.untold != Integer.MAX_VALUE && each.untold <= k;
                    if (same && each.told <= k && !gone) {
                        known[a][b] = each.so;
                    }
                }
                if (a != b && known[a][b] == 0) {
                    return null;
                }
            }
        }
        return known;
    }

    /** The least bits of so many doors (3 or 4) that can't be so, else 0. */
    private static int wrongOf(int[][] so, int n, int doors) {
        int least = 0;
        for (int mask = (1 << n) - 1; mask > 0; mask--) {
            if (Integer.bitCount(mask) == doors) {
                int[] at = new int[doors];
                int filled = 0;
                for (int door = 0; door < n; door++) {
                    if ((mask >> door & 1) == 1) {
                        at[filled++] = door;
                    }
                }
                least = doors == 3 ? three(so, at) ? least : mask : four(so, at) ? least : mask;
            }
        }
        return least;
    }

    private static boolean three(int[][] so, int[] at) {
        for (int by : at) {
            for (int a : at) {
                for (int b : at) {
                    boolean unlike = a != b && by != a && by != b;
                    if (unlike && so[a][b] > so[a][by] + so[by][b]) {
                        return false;
                    }
                }
            }
        }
        return true;
    }

    private static boolean four(int[][] so, int[] at) {
        int[] sums = {so[at[0]][at[1]] + so[at[2]][at[3]], so[at[0]][at[2]] + so[at[1]][at[3]],
            so[at[0]][at[3]] + so[at[1]][at[2]]};
        Arrays.sort(sums);
        return sums[1] == sums[2];
    }

    private static int wrongOf(int[][] so, int n) {
        int three = wrongOf(so, n, 3);
        return three != 0 ? three : wrongOf(so, n, 4);
    }

    public int wrong(int n, int k) {
        if (n < 2 || n > 6) {
            return NONE;
        }
        int[][] known = known(n, k);
        return known == null ? -2 : wrongOf(known, n);
    }

    public int mended(int n, int what, int k) {
        if (n < 2 || n > 6 || what < 0 || what > 1) {
            return -3;
        }
        int[][] known = known(n, k);
        if (known == null || wrongOf(known, n) == 0) {
            return known == null ? -2 : 0;
        }
        for (int a = 0; a < n; a++) {
            for (int b = a + 1; b < n; b++) {
                int was = known[a][b];
                int best = 0;
                for (int so = 1; so <= 999; so++) {
                    known[a][b] = so;
                    known[b][a] = so;
                    boolean nearer = best == 0 || Math.abs(so - was) < Math.abs(best - was);
                    best = nearer && wrongOf(known, n) == 0 ? so : best;
                }
                known[a][b] = was;
                known[b][a] = was;
                if (best != 0) {
                    return what == 0 ? 10 * a + b : best;
                }
            }
        }
        return NONE;
    }

    // ---- Promise 44

    public int about(int what) {
        int[] all = {now.n(), Arrays.stream(now.folk).sum(), Arrays.stream(now.len).sum(), carts.size(), past.size(),
            future.size(), distances.size(), time, tape.length(), there.size(), now.seed};
        return what < 0 || what >= all.length ? NONE : all[what];
    }
}
