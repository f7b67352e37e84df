import java.util.ArrayList;
import java.util.HashMap;
import java.util.HashSet;
import java.util.LinkedHashMap;
import java.util.List;
import java.util.Map;
import java.util.PriorityQueue;
import java.util.Set;

/** The document once more, by trying everything: slow, plain, for towns of few houses. */
final class Model {
    static final int FAR_OFF = 1000000;

    /** Of each house: what it hangs at, its street's length, its people. */
    final List<int[]> houses = new ArrayList<>();
    /** Of each cart: where it is, where it goes. */
    final List<int[]> carts = new ArrayList<>();
    int seed;

    Model copy() {
        Model other = new Model();
        for (int[] house : houses) {
            other.houses.add(house.clone());
        }
        other.carts.addAll(carts);
        other.seed = seed;
        return other;
    }

    String text() {
        StringBuilder text = new StringBuilder();
        for (int i = 0; i < houses.size(); i++) {
            int[] house = houses.get(i);
            text.append("house ").append((char) ('a' + i));
            if (i > 0) {
                text.append(" at ").append((char) ('a' + house[0])).append(" street ").append(house[1]);
            }
            text.append(" people ").append(house[2]).append(";");
        }
        for (int i = 0; i < carts.size(); i++) {
            text.append("cart ").append((char) ('a' + i)).append(" at ").append((char) ('a' + carts.get(i)[0]));
            text.append(" to ").append((char) ('a' + carts.get(i)[1])).append(";");
        }
        return text.append("draw ").append(seed).append(";").toString();
    }

    int n() {
        return houses.size();
    }

    /** All streets as {house, house, length}. */
    List<int[]> streets() {
        List<int[]> all = new ArrayList<>();
        for (int i = 1; i < n(); i++) {
            all.add(new int[] {i, houses.get(i)[0], houses.get(i)[1]});
        }
        return all;
    }

    static int[][] ways(int n, List<int[]> streets) {
        int[][] w = new int[n][n];
        for (int a = 0; a < n; a++) {
            for (int b = 0; b < n; b++) {
                w[a][b] = a == b ? 0 : FAR_OFF;
            }
        }
        for (int[] s : streets) {
            w[s[0]][s[1]] = s[2];
            w[s[1]][s[0]] = s[2];
        }
        for (int k = 0; k < n; k++) {
            for (int a = 0; a < n; a++) {
                for (int b = 0; b < n; b++) {
                    w[a][b] = Math.min(w[a][b], w[a][k] + w[k][b]);
                }
            }
        }
        return w;
    }

    int[][] ways() {
        return ways(n(), streets());
    }

    boolean joined(int a, int b) {
        for (int[] s : streets()) {
            if (s[0] == a && s[1] == b || s[0] == b && s[1] == a) {
                return true;
            }
        }
        return false;
    }

    int far(int house) {
        int most = 0;
        for (int w : ways()[house]) {
            most = Math.max(most, w);
        }
        return most;
    }

    int[] farthest() {
        int[][] w = ways();
        int[] best = {-1, -1, -1};
        for (int a = 0; a < n(); a++) {
            for (int b = a + 1; b < n(); b++) {
                if (w[a][b] > best[2]) {
                    best = new int[] {a, b, w[a][b]};
                }
            }
        }
        return best;
    }

    /** People of what hangs together with a house, not going by another one. */
    int peopleWith(int house, int without) {
        Set<Integer> found = new HashSet<>();
        found.add(house);
        for (int round = 0; round < n(); round++) {
            for (int[] s : streets()) {
                if (s[0] != without && s[1] != without && (found.contains(s[0]) || found.contains(s[1]))) {
                    found.add(s[0]);
                    found.add(s[1]);
                }
            }
        }
        int sum = 0;
        for (int h : found) {
            sum += houses.get(h)[2];
        }
        return sum;
    }

    int[] quarters(int house) {
        List<Integer> people = new ArrayList<>();
        for (int other = 0; other < n(); other++) {
            if (joined(house, other)) {
                people.add(peopleWith(other, house));
            }
        }
        return people.stream().mapToInt(Integer::intValue).toArray();
    }

    int middle(int sort) {
        int best = -1;
        int least = 0;
        for (int house = 0; house < n(); house++) {
            int off = 0;
            if (sort == 0) {
                off = far(house);
            } else if (sort == 1) {
                for (int other = 0; other < n(); other++) {
                    off += ways()[house][other] * houses.get(other)[2];
                }
            } else {
                for (int people : quarters(house)) {
                    off = Math.max(off, people);
                }
            }
            if (best == -1 || off < least) {
                best = house;
                least = off;
            }
        }
        return best;
    }

    /** The shortest walk over all streets, by a search over places and streets gone. */
    int post(int house, boolean home) {
        List<int[]> streets = streets();
        int all = (1 << streets.size()) - 1;
        Map<Integer, Integer> settled = new HashMap<>();
        PriorityQueue<int[]> queue = new PriorityQueue<>((p, q) -> Integer.compare(p[0], q[0]));
        queue.add(new int[] {0, house, 0});
        while (!queue.isEmpty()) {
            int[] top = queue.poll();
            int key = top[2] * 16 + top[1];
            if (settled.containsKey(key)) {
                continue;
            }
            settled.put(key, top[0]);
            if (top[2] == all && (!home || top[1] == house)) {
                return top[0];
            }
            for (int i = 0; i < streets.size(); i++) {
                int[] s = streets.get(i);
                if (s[0] == top[1] || s[1] == top[1]) {
                    queue.add(new int[] {top[0] + s[2], s[0] + s[1] - top[1], top[2] | 1 << i});
                }
            }
        }
        return -1;
    }

    /** Whether of two unlike sets the first one has the first house by which they differ. */
    static boolean isAhead(int a, int b) {
        return (a & Integer.lowestOneBit(a ^ b)) != 0;
    }

    int wardens(int d) {
        int[][] w = ways();
        int best = -1;
        for (int set = 0; set < 1 << n(); set++) {
            boolean good = true;
            for (int house = 0; house < n() && good; house++) {
                boolean near = false;
                for (int other = 0; other < n(); other++) {
                    near |= (set >> other & 1) != 0 && w[house][other] <= d;
                }
                good = near;
            }
            if (good && (best == -1 || Integer.bitCount(set) < Integer.bitCount(best)
                    || Integer.bitCount(set) == Integer.bitCount(best) && isAhead(set, best))) {
                best = set;
            }
        }
        return best;
    }

    boolean isApart(int set) {
        for (int[] s : streets()) {
            if ((set >> s[0] & 1) != 0 && (set >> s[1] & 1) != 0) {
                return false;
            }
        }
        return true;
    }

    boolean isGuarded(int set) {
        for (int[] s : streets()) {
            if ((set >> s[0] & 1) == 0 && (set >> s[1] & 1) == 0) {
                return false;
            }
        }
        return true;
    }

    boolean hangsTogether(int set) {
        int found = Integer.lowestOneBit(set);
        for (int round = 0; round < n(); round++) {
            for (int[] s : streets()) {
                int both = 1 << s[0] | 1 << s[1];
                if ((set & both) == both && (found & both) != 0) {
                    found |= both;
                }
            }
        }
        return set != 0 && found == set;
    }

    int peopleOf(int set) {
        int sum = 0;
        for (int house = 0; house < n(); house++) {
            sum += (set >> house & 1) * houses.get(house)[2];
        }
        return sum;
    }

    int quiet() {
        int best = -1;
        for (int set = 0; set < 1 << n(); set++) {
            if (isApart(set) && (best == -1 || peopleOf(set) > peopleOf(best)
                    || peopleOf(set) == peopleOf(best) && isAhead(set, best))) {
                best = set;
            }
        }
        return best;
    }

    int guards() {
        int best = -1;
        for (int set = 0; set < 1 << n(); set++) {
            if (isGuarded(set) && (best == -1 || Integer.bitCount(set) < Integer.bitCount(best)
                    || Integer.bitCount(set) == Integer.bitCount(best) && isAhead(set, best))) {
                best = set;
            }
        }
        return best;
    }

    int counted(int what) {
        int count = 0;
        if (what == 3) {
            List<int[]> streets = streets();
            for (int set = 0; set < 1 << streets.size(); set++) {
                int taken = 0;
                boolean good = true;
                for (int i = 0; i < streets.size(); i++) {
                    if ((set >> i & 1) != 0) {
                        int both = 1 << streets.get(i)[0] | 1 << streets.get(i)[1];
                        good &= (taken & both) == 0;
                        taken |= both;
                    }
                }
                count += good ? 1 : 0;
            }
            return count;
        }
        for (int set = 0; set < 1 << n(); set++) {
            boolean good = what == 0 ? isApart(set) : what == 1 ? isGuarded(set) : hangsTogether(set);
            count += good ? 1 : 0;
        }
        return count;
    }

    /** {sum, set}. */
    int[] shops(int k) {
        int[][] w = ways();
        int[] best = null;
        for (int set = 0; set < 1 << n(); set++) {
            if (Integer.bitCount(set) != Math.min(k, n())) {
                continue;
            }
            int sum = 0;
            for (int house = 0; house < n(); house++) {
                int near = FAR_OFF;
                for (int shop = 0; shop < n(); shop++) {
                    if ((set >> shop & 1) != 0) {
                        near = Math.min(near, w[house][shop]);
                    }
                }
                sum += near * houses.get(house)[2];
            }
            if (best == null || sum < best[0] || sum == best[0] && isAhead(set, best[1])) {
                best = new int[] {sum, set};
            }
        }
        return best;
    }

    int wells(int k) {
        int d = 0;
        while (Integer.bitCount(wardens(d)) > k) {
            d++;
        }
        return d;
    }

    /** Hour by hour all sets of houses that can know. */
    int news(int house) {
        Set<Integer> sets = new HashSet<>();
        sets.add(1 << house);
        for (int hours = 0;; hours++) {
            if (sets.contains((1 << n()) - 1)) {
                return hours;
            }
            Set<Integer> next = new HashSet<>();
            for (int set : sets) {
                tellOn(set, set, 0, next);
            }
            sets = next;
        }
    }

    private void tellOn(int before, int set, int house, Set<Integer> into) {
        if (house == n()) {
            into.add(set);
            return;
        }
        tellOn(before, set, house + 1, into);
        for (int other = 0; other < n() && (before >> house & 1) != 0; other++) {
            if ((before >> other & 1) == 0 && joined(house, other)) {
                tellOn(before, set | 1 << other, house + 1, into);
            }
        }
    }

    /** All orders in which each house may tell its neighbours. */
    int tidings(int house, int from) {
        List<Integer> next = new ArrayList<>();
        for (int other = 0; other < n(); other++) {
            if (other != from && joined(house, other)) {
                next.add(ways()[house][other] + tidings(other, house));
            }
        }
        return bestOrder(next, 0, 0);
    }

    private static int bestOrder(List<Integer> left, int begins, int soFar) {
        if (left.isEmpty()) {
            return soFar;
        }
        int best = FAR_OFF;
        for (int i = 0; i < left.size(); i++) {
            List<Integer> rest = new ArrayList<>(left);
            int need = rest.remove(i);
            best = Math.min(best, bestOrder(rest, begins + 1, Math.max(soFar, begins + need)));
        }
        return best;
    }

    /** {steps, first cart, first house}; {-1, -1, -1} if it can't be; {-2, -2, -2} if spent. */
    int[] cartsBack() {
        List<Integer> start = new ArrayList<>();
        List<Integer> goal = new ArrayList<>();
        for (int[] cart : carts) {
            start.add(cart[0]);
            goal.add(cart[1]);
        }
        Map<List<Integer>, Integer> from = search(start);
        if (!from.containsKey(goal)) {
            int none = from.size() > 20000 ? -2 : -1;
            return new int[] {none, none, none};
        }
        int place = 0;
        for (List<Integer> state : from.keySet()) {
            place++;
            if (state.equals(goal)) {
                break;
            }
        }
        if (place > 20000) {
            return new int[] {-2, -2, -2};
        }
        int steps = from.get(goal);
        if (steps == 0) {
            return new int[] {0, -1, -1};
        }
        // Steps can be gone back, so those left to go are those come from the goal.
        Map<List<Integer>, Integer> left = search(goal);
        for (int cart = 0; cart < carts.size(); cart++) {
            for (int house = 0; house < n(); house++) {
                if (joined(start.get(cart), house) && !start.contains(house)) {
                    List<Integer> next = new ArrayList<>(start);
                    next.set(cart, house);
                    if (left.get(next) == steps - 1) {
                        return new int[] {steps, cart, house};
                    }
                }
            }
        }
        return null;
    }

    /** All states with the steps to them, in the order in which they are come to. */
    private Map<List<Integer>, Integer> search(List<Integer> start) {
        boolean[][] street = new boolean[n()][n()];
        for (int[] s : streets()) {
            street[s[0]][s[1]] = true;
            street[s[1]][s[0]] = true;
        }
        Map<List<Integer>, Integer> steps = new LinkedHashMap<>();
        List<List<Integer>> queue = new ArrayList<>();
        steps.put(start, 0);
        queue.add(start);
        for (int i = 0; i < queue.size(); i++) {
            List<Integer> state = queue.get(i);
            for (int cart = 0; cart < carts.size(); cart++) {
                for (int house = 0; house < n(); house++) {
                    if (street[state.get(cart)][house] && !state.contains(house)) {
                        List<Integer> next = new ArrayList<>(state);
                        next.set(cart, house);
                        if (!steps.containsKey(next)) {
                            steps.put(next, steps.get(state) + 1);
                            queue.add(next);
                        }
                    }
                }
            }
        }
        return steps;
    }

    /** In how many ways houses can be taken for those of another town. */
    long likes(Model other, boolean lengths) {
        if (n() != other.n()) {
            return 0;
        }
        return likesFrom(other, lengths, new int[n()], 0, 0);
    }

    private long likesFrom(Model other, boolean lengths, int[] taken, int house, int used) {
        if (house == n()) {
            return 1;
        }
        long count = 0;
        for (int as = 0; as < n(); as++) {
            if ((used >> as & 1) != 0) {
                continue;
            }
            taken[house] = as;
            boolean good = true;
            for (int before = 0; before < house && good; before++) {
                int here = streetOf(before, house);
                int there = other.streetOf(taken[before], as);
                good = lengths ? here == there : here > 0 == there > 0;
            }
            if (good) {
                count += likesFrom(other, lengths, taken, house + 1, used | 1 << as);
            }
        }
        return count;
    }

    private int streetOf(int a, int b) {
        for (int[] s : streets()) {
            if (s[0] == a && s[1] == b || s[0] == b && s[1] == a) {
                return s[2];
            }
        }
        return 0;
    }

    int[] marks() {
        List<int[]> left = streets();
        List<Integer> told = new ArrayList<>();
        while (left.size() > 1) {
            for (int house = 0; house < n(); house++) {
                int[] only = null;
                int streets = 0;
                for (int[] s : left) {
                    if (s[0] == house || s[1] == house) {
                        only = s;
                        streets++;
                    }
                }
                if (streets == 1) {
                    told.add(only[0] + only[1] - house);
                    left.remove(only);
                    break;
                }
            }
        }
        return told.stream().mapToInt(Integer::intValue).toArray();
    }

    /** Whether going from a house by what each hangs at meets another one. */
    boolean isBehind(int house, int other) {
        for (int at = house; at != -1; at = houses.get(at)[0]) {
            if (at == other) {
                return true;
            }
        }
        return false;
    }

    /** {longest, house of the part cut off, the other one}. */
    int[] joinedElsewhere(int house) {
        int[] best = null;
        for (int inner = 0; inner < n(); inner++) {
            for (int outer = 0; outer < n(); outer++) {
                if (!isBehind(inner, house) || isBehind(outer, house)) {
                    continue;
                }
                List<int[]> streets = streets();
                streets.set(house - 1, new int[] {inner, outer, houses.get(house)[1]});
                int longest = 0;
                for (int[] row : ways(n(), streets)) {
                    for (int w : row) {
                        longest = Math.max(longest, w);
                    }
                }
                if (best == null || longest < best[0]) {
                    best = new int[] {longest, inner, outer};
                }
            }
        }
        return best;
    }

    int streetsAt(int house) {
        int count = 0;
        for (int[] s : streets()) {
            count += s[0] == house || s[1] == house ? 1 : 0;
        }
        return count;
    }

    void year() {
        seed = (137 * seed + 71) % 1000;
        if (seed % 4 == 0) {
            int burns = -1;
            for (int house = 0; house < n(); house++) {
                burns = streetsAt(house) == 1 ? house : burns;
            }
            if (burns != -1) {
                houses.get(burns)[2] = 0;
            }
        } else if (n() < 14) {
            houses.add(new int[] {seed % n(), 1 + seed % 9, seed % 5});
        } else {
            int[] house = houses.get(seed % 14);
            house[2] = Math.min(99, house[2] + 1);
        }
    }

    /** The streets that a row of marks tells, found as the one town whose marks these are. */
    static Model fromMarks(int n, int[] marks) {
        // The usual way back: the least house without a mark left is the next one taken away.
        List<int[]> streets = new ArrayList<>();
        Set<Integer> gone = new HashSet<>();
        for (int i = 0; i < marks.length; i++) {
            for (int house = 0; house < n; house++) {
                boolean named = gone.contains(house);
                for (int j = i; j < marks.length; j++) {
                    named |= marks[j] == house;
                }
                if (!named) {
                    streets.add(new int[] {house, marks[i]});
                    gone.add(house);
                    break;
                }
            }
        }
        int[] last = java.util.stream.IntStream.range(0, n).filter(h -> !gone.contains(h)).toArray();
        streets.add(last);
        Model model = new Model();
        int[] at = new int[n];
        java.util.Arrays.fill(at, -2);
        at[0] = -1;
        for (int round = 0; round < n; round++) {
            for (int[] s : streets) {
                if (at[s[0]] != -2 && at[s[1]] == -2) {
                    at[s[1]] = s[0];
                } else if (at[s[1]] != -2 && at[s[0]] == -2) {
                    at[s[0]] = s[1];
                }
            }
        }
        for (int house = 0; house < n; house++) {
            model.houses.add(new int[] {at[house], house == 0 ? 0 : 1, 1});
        }
        return model;
    }
}
