import java.nio.charset.StandardCharsets;

/** What the tests share: counting answers, and telling a town by a text. */
final class Check {
    static final int NONE = OneWayTown.NONE;

    private static int passed;
    private static int failed;
    private static String sentence = "";

    private Check() {
    }

    /**
     * What is looked at from here on belongs to this sentence, of this part of the document;
     * SentencesTest looks whether the sentence stands there, and whether one is missing.
     */
    static void says(String where, String words) {
        sentence = where + ", '" + words + "': ";
    }

    static void due(String call, long got, long want) {
        if (got == want) {
            passed++;
            return;
        }
        failed++;
        if (failed <= 50) {
            System.out.println(sentence + call + " answered " + got + ", due is " + want);
        }
    }

    static void due(String call, boolean got, boolean want) {
        due(call, got ? 1 : 0, want ? 1 : 0);
    }

    /** Feeds a text of one sign a byte; the tape must be empty or hold a multiple of what fits. */
    static void tape(OneWayTown x, String text) {
        byte[] bytes = text.getBytes(StandardCharsets.ISO_8859_1);
        int before = x.about(8);
        for (int i = 0; i < bytes.length; i += 20) {
            int[] five = new int[5];
            for (int j = 0; j < 20; j++) {
                int sign = i + j < bytes.length ? bytes[i + j] & 255 : 32;
                five[j / 4] = five[j / 4] << 8 | sign;
            }
            x.feed(five[0], five[1], five[2], five[3], five[4]);
        }
        x.end(before + bytes.length);
    }

    /** A new object with the town of a text, which must have no fault. */
    static OneWayTown told(String text) {
        OneWayTown x = new OneWayTown();
        tape(x, text);
        if (x.town() == NONE) {
            due("fault of: " + text, x.fault(0), 0);
        }
        return x;
    }

    /** Looks at a text's fault and place on a new object. */
    static void fault(String text, int fault, int place) {
        OneWayTown x = new OneWayTown();
        tape(x, text);
        int houses = x.town();
        due("town() of: " + text, houses == NONE, fault != 0);
        due("fault(0) of: " + text, x.fault(0), fault);
        due("fault(1) of: " + text, x.fault(1), place);
    }

    /** Looks at all numbers that lie there. */
    static void lying(String call, OneWayTown x, int... numbers) {
        due(call + ", about(9)", x.about(9), numbers.length);
        for (int i = 0; i < numbers.length; i++) {
            due(call + ", lies(" + i + ")", x.lies(i), numbers[i]);
        }
        due(call + ", lies behind the last", x.lies(numbers.length), NONE);
    }

    static void finish(String name) {
        System.out.println(name + ": " + passed + " answers as due, " + failed + " not");
        if (failed != 0 || passed == 0) {
            System.exit(1);
        }
    }
}
