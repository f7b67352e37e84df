import java.lang.reflect.Method;
import java.lang.reflect.Modifier;
import java.util.ArrayList;
import java.util.Arrays;
import java.util.Collections;
import java.util.HashMap;
import java.util.List;
import java.util.Map;
import java.util.Random;
import java.util.Set;

/**
 * All promises: runs of any calls on a new object, each answer held against the one of Plain, which
 * tells the document a second time. A run's first wrong answer is told with all calls that led there.
 * By hand: RunsTest FIRST RUNS tries so many other runs.
 */
public final class RunsTest {
    private static final int MOST_CALLS = 512;
    private static final int[] EDGES = {Integer.MIN_VALUE, -1000, -3, -2, -1, 5, 6, 7, 13, 14, 15, 39, 40, 41, 49, 50,
        51, 98, 99, 100, 101, 998, 999, 1000, 1001, 1199, 1200, 1201, 99999, 100000, 100001, Integer.MAX_VALUE};
    private static final String[] WORDS = {"house", "at", "street", "people", "cart", "to", "draw", ";", "a", "b", "q",
        "houses", "abcdefgh", "abcdefghi", "0", "1", "99", "100", "007", "0000", "12345", "999", "1000", "A", "?",
        "\0", "\u00ff", "5x", "x5", " ", "\n", "\t", "\r", ""};
    private static final String[] ACTS = {"grow", "move", "move", "live", "years", "grown"};
    private static final String[] UNDONE = {"undo", "undo", "undo", "redo", "house", "about"};
    private static final String[] ROADS = {"carts", "carts", "carts", "move", "move", "grow", "undo"};
    private static final Set<String> LAYING = Set.of("way", "wells", "shops", "quarters", "marks");
    private static final Map<String, Method> FACE = face();

    private final Random random;
    private final OneWayTown asked = new OneWayTown();
    private final Plain plain = new Plain();
    private final StringBuilder told = new StringBuilder();
    private int calls;
    private boolean wrong;

    private RunsTest(long seed) {
        random = new Random(seed);
    }

    public static void main(String[] args) throws Exception {
        long first = args.length > 0 ? Long.parseLong(args[0]) : 1;
        long runs = args.length > 1 ? Long.parseLong(args[1]) : 200;
        for (long seed = first; seed < first + runs; seed++) {
            RunsTest run = new RunsTest(seed);
            switch ((int) (seed % 5)) {
                case 0:
                    run.texts();
                    break;
                case 1:
                    run.doors();
                    break;
                case 2:
                    run.acts();
                    break;
                case 3:
                    run.asked("a great town with carts", ROADS);
                    break;
                default:
                    run.asked("a whole town", FACE.keySet().stream().sorted().toArray(String[]::new));
                    break;
            }
        }
        Check.finish("RunsTest");
    }

    private static Map<String, Method> face() {
        Map<String, Method> face = new HashMap<>();
        for (Method method : OneWayTown.class.getDeclaredMethods()) {
            if (Modifier.isPublic(method.getModifiers())) {
                face.put(method.getName(), method);
            }
        }
        return face;
    }

    // ---- Sorts of runs

    private void texts() throws Exception {
        while (goesOn(80)) {
            String text = text(random.nextInt(3) == 0 ? 14 : random.nextInt(4), random.nextInt(5), random.nextInt(4) == 0);
            for (int change = random.nextInt(3); change > 0; change--) {
                int at = random.nextInt(text.length() + 1);
                int end = Math.min(text.length(), at + random.nextInt(4));
                text = text.substring(0, at) + WORDS[random.nextInt(WORDS.length)] + text.substring(end);
            }
            tell(text);
            ask("about", "house", "carts");
        }
    }

    private void doors() throws Exception {
        while (goesOn(60)) {
            tellDoors();
            for (int i = random.nextInt(10); i > 0; i--) {
                ask("later", "untell", "untell", "distance", "wrong", "mended", "about");
            }
            if (plain.about(6) > 30 && random.nextInt(4) > 0) {
                // Only a town takes distances away.
                tell(text(2, 0, false));
            }
        }
    }

    /** Stretches of acts and of undoing, some longer than the forty acts that are kept. */
    private void acts() throws Exception {
        tell(text(1 + random.nextInt(14), random.nextInt(4), false));
        while (goesOn(140)) {
            ask("image", "back", "about", "house");
            for (int i = 20 + random.nextInt(40); i > 0; i--) {
                ask(ACTS);
            }
            for (int i = random.nextInt(60); i > 0; i--) {
                ask(UNDONE);
            }
            for (int what = 0; what <= 10; what++) {
                call("about", what);
            }
        }
    }

    private void asked(String of, String... names) throws Exception {
        boolean great = of.startsWith("a great");
        tell(text(great ? 11 + random.nextInt(4) : random.nextInt(15), great ? 4 : random.nextInt(4), false));
        int most = great ? 60 : MOST_CALLS;
        while (goesOn(60) && calls < most) {
            ask(names);
            if (!great && random.nextInt(150) == 0) {
                tell(text(random.nextInt(15), random.nextInt(5), random.nextInt(9) == 0));
            }
        }
    }

    private boolean goesOn(int needed) {
        return !wrong && calls + needed <= MOST_CALLS;
    }

    // ---- Calls

    private void ask(String... names) throws Exception {
        String name = names[random.nextInt(names.length)];
        call(name, some(FACE.get(name)));
        if (LAYING.contains(name)) {
            for (int i = 0; i <= plain.about(9); i++) {
                call("lies", i);
            }
        }
    }

    private void call(String name, Object... values) throws Exception {
        if (wrong) {
            return;
        }
        calls++;
        Method method = FACE.get(name);
        told.append('\n').append(name).append(Arrays.toString(values));
        Object got = method.invoke(asked, values);
        Object want = Plain.class.getMethod(name, method.getParameterTypes()).invoke(plain, values);
        told.append(" = ").append(got);
        wrong = !got.equals(want);
        Check.due(wrong ? "after" + told + " (due is " + want + "), wrong" : name, wrong, false);
    }

    private Object[] some(Method method) {
        Class<?>[] types = method.getParameterTypes();
        Object[] values = new Object[types.length];
        for (int i = 0; i < types.length; i++) {
            values[i] = types[i] == boolean.class ? (Object) random.nextBoolean()
                    : types[i] == long.class ? (Object) someMarks((int) values[0]) : (Object) number(method.getName(), i);
        }
        return values;
    }

    private int number(String name, int place) {
        int sort = random.nextInt(40);
        if (sort == 0) {
            return EDGES[random.nextInt(EDGES.length)];
        }
        return sort == 1 ? random.nextInt() : place == 0 ? firstNumber(name) : laterNumber(name, place);
    }

    private int aHouse() {
        return random.nextInt(plain.about(0) + (random.nextInt(8) == 0 ? 2 : 1));
    }

    private int firstNumber(String name) {
        switch (name) {
            case "wardens":
                return random.nextInt(new int[] {4, 12, 150, 1002}[random.nextInt(4)]);
            case "unlike":
            case "grown":
                return random.nextInt(16);
            case "image":
            case "back":
            case "alike":
            case "farthest":
            case "middle":
            case "carts":
                return random.nextInt(4);
            case "wells":
            case "shops":
            case "counted":
            case "distance":
            case "wrong":
            case "mended":
            case "tried":
                return random.nextInt(7);
            case "untell":
                return random.nextInt(plain.about(6) + 1);
            case "years":
                return random.nextInt(random.nextInt(4) == 0 ? 52 : 4);
            case "end":
                return random.nextInt(plain.about(8) + 2);
            case "about":
                return random.nextInt(12);
            case "later":
                return random.nextInt(random.nextBoolean() ? 3 : 1002);
            default:
                return aHouse();
        }
    }

    private int laterNumber(String name, int place) {
        switch (name) {
            case "house":
            case "joined":
                return random.nextInt(5);
            case "grow":
            case "live":
                return random.nextInt(random.nextBoolean() ? 4 : 101);
            case "tried":
            case "distance":
                return random.nextInt(place == 1 ? 7 : 12);
            case "wrong":
                return plain.about(7) - random.nextInt(8) + 1;
            case "mended":
                return place == 1 ? random.nextInt(3) : plain.about(7) - random.nextInt(8) + 1;
            case "feed":
                return random.nextInt();
            default:
                return aHouse();
        }
    }

    private long someMarks(int n) {
        long marks = random.nextLong();
        int most = Math.max(1, Math.min(16, n + (random.nextInt(8) == 0 ? 1 : 0) - random.nextInt(3)));
        for (int i = 0; i < Math.min(14, n - 2); i++) {
            marks = marks & ~(15L << 4 * i) | (long) random.nextInt(most) << 4 * i;
        }
        return marks;
    }

    // ---- Texts and distances

    private void tell(String text) throws Exception {
        if (plain.about(8) > 0 && random.nextInt(6) > 0) {
            call("end", 0);
        }
        int before = plain.about(8);
        for (int i = 0; i < text.length(); i += 20) {
            Object[] five = new Object[5];
            for (int j = 0; j < 5; j++) {
                int four = 0;
                for (int k = i + 4 * j; k < i + 4 * j + 4; k++) {
                    four = four << 8 | (k < text.length() ? text.charAt(k) : ' ');
                }
                five[j] = four;
            }
            call("feed", five);
        }
        call("end", before + text.length());
        call("town");
        call("fault", 0);
        call("fault", 1);
    }

    /** A text of a town; carts of a faulty one are told without a look at where others are. */
    private String text(int houses, int carts, boolean faulty) {
        List<String> lines = new ArrayList<>();
        List<Integer> ats = new ArrayList<>();
        int near = 1 + random.nextInt(6);
        int longest = new int[] {1, 3, 99}[random.nextInt(3)];
        int folk = new int[] {1, 4, 100}[random.nextInt(3)];
        for (int house = 0; house < houses; house++) {
            int at = house == 0 ? 0 : Math.max(random.nextInt(house), house - near);
            String hangs = house == 0 ? "" : " at " + name(at) + " street " + (1 + random.nextInt(longest));
            String people = random.nextInt(3) == 0 ? "" : " people " + random.nextInt(folk);
            lines.add("house " + name(house) + hangs + people);
            ats.add(house);
        }
        List<Integer> tos = new ArrayList<>(ats);
        Collections.shuffle(ats, random);
        Collections.shuffle(tos, random);
        for (int cart = 0; cart < Math.min(carts, houses); cart++) {
            int at = faulty ? random.nextInt(houses) : ats.get(cart);
            int to = faulty ? random.nextInt(houses) : tos.get(cart);
            if (faulty || at != to) {
                lines.add("cart " + name(faulty ? random.nextInt(9) : cart) + " at " + name(at) + " to " + name(to));
            }
        }
        if (random.nextBoolean()) {
            lines.add(random.nextInt(lines.size() + 1), "draw " + random.nextInt(1000));
        }
        StringBuilder text = new StringBuilder();
        for (String line : lines) {
            text.append(line).append(random.nextInt(4) > 0 ? ";" : " ;\n");
        }
        return text.toString();
    }

    private static String name(int number) {
        return number % 7 == 3 ? "h" + (char) ('a' + number) : "" + (char) ('a' + number);
    }

    /** Ways of a town told as distances, now and then one or two of them changed. */
    private void tellDoors() throws Exception {
        int[][] ways = new int[6][6];
        int longest = random.nextBoolean() ? 3 : 199;
        int[] stem = new int[6];
        for (int a = 1; a < 6; a++) {
            int at = random.nextInt(a);
            int street = 1 + random.nextInt(longest);
            for (int b = 0; b < a; b++) {
                ways[a][b] = ways[at][b] + street;
                ways[b][a] = ways[a][b];
            }
            stem[a] = random.nextInt(longest);
        }
        // Doors need not be at the parting of the ways.
        for (int a = 0; a < 6; a++) {
            for (int b = 0; b < 6; b++) {
                ways[a][b] = Math.min(999, ways[a][b] + stem[a] + stem[b]);
            }
        }
        for (int change = random.nextInt(3); change > 0; change--) {
            int a = random.nextInt(6);
            int b = random.nextInt(6);
            ways[a][b] = 1 + random.nextInt(random.nextBoolean() ? 8 : 999);
            ways[b][a] = ways[a][b];
        }
        int doors = 3 + random.nextInt(4);
        for (int a = 1; a < doors; a++) {
            for (int b = 0; b < a; b++) {
                call("distance", random.nextBoolean() ? new Object[] {a, b, ways[a][b]} : new Object[] {b, a, ways[a][b]});
            }
        }
        int k = plain.about(7);
        for (int n = 3; n <= doors; n++) {
            call("wrong", n, k);
            call("mended", n, 0, k);
            call("mended", n, 1, k);
        }
    }
}
