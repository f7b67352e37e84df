import java.io.IOException;
import java.nio.file.Files;
import java.nio.file.Path;
import java.util.Arrays;
import java.util.LinkedHashMap;
import java.util.List;
import java.util.Map;
import java.util.regex.Matcher;
import java.util.regex.Pattern;
import java.util.stream.Stream;

/**
 * Each sentence of the promises and the terms is quoted by a test of its own (Check.says), and each
 * quotation stands in that part of the document which it names.
 */
public final class SentencesTest {
    private static final Path DOCUMENT = Path.of("../shared/DOC.md");
    private static final Path TESTS = Path.of("src/test/java");

    public static void main(String[] args) throws IOException {
        if (!Files.exists(DOCUMENT)) {
            System.out.println("SentencesTest: " + DOCUMENT + " is not here, nothing looked at");
            return;
        }
        Map<String, String> parts = parts(Files.readString(DOCUMENT));
        Map<String, StringBuilder> left = new LinkedHashMap<>();
        parts.forEach((name, text) -> left.put(name, new StringBuilder(text)));
        for (String[] quotation : quotations()) {
            StringBuilder text = left.get(quotation[0]);
            Check.due("there is a part " + quotation[0], text != null, true);
            int place = text == null ? -1 : parts.get(quotation[0]).indexOf(quotation[1]);
            Check.due(quotation[0] + " says: " + quotation[1], place >= 0, true);
            for (int i = place; i >= 0 && i < place + quotation[1].length(); i++) {
                text.setCharAt(i, ' ');
            }
        }
        Check.due("five parts of the terms, 44 promises, and what it is", parts.size(), 50);
        left.forEach((name, text) -> {
            String rest = text.toString().replaceAll("[^A-Za-z0-9]+", " ").strip();
            Check.due("not looked at in " + name + ": " + rest, rest.isEmpty(), true);
        });
        Check.finish("SentencesTest");
    }

    /** The text of each part, its blanks made one, without its heading and the call's form. */
    private static Map<String, String> parts(String document) {
        Map<String, String> parts = new LinkedHashMap<>();
        String[] sections = document.split("(?m)^## ");
        for (String section : sections) {
            String heading = section.lines().findFirst().orElse("");
            String body = section.substring(heading.length());
            Matcher promise = Pattern.compile("Promise (\\d+): .*").matcher(heading);
            if (promise.matches()) {
                parts.put("Promise " + promise.group(1), plain(body.replaceFirst("`[^`]*`: ", "")));
            } else if (heading.equals("Terms")) {
                String[] terms = body.split("==== \\d\\.");
                for (int i = 0; i < terms.length; i++) {
                    parts.put("Terms " + (i + 1), plain(terms[i].replace("```text", "").replace("```", "")));
                }
            } else if (heading.equals("What it is")) {
                parts.put(heading, plain(body.substring(body.indexOf("==== 1.") + 7)));
            }
        }
        parts.computeIfPresent("Terms 1", (name, text) -> text.replace("TOKENS: ", ""));
        return parts;
    }

    private static String plain(String text) {
        return text.replaceAll("\\s+", " ").strip();
    }

    private static List<String[]> quotations() throws IOException {
        try (Stream<Path> files = Files.list(TESTS)) {
            return files.filter(file -> file.getFileName().toString().matches("Edge.*Test\\.java")).sorted()
                    .flatMap(file -> quotationsOf(file).stream()).toList();
        }
    }

    private static List<String[]> quotationsOf(Path file) {
        try {
            String literal = "\"((?:[^\"\\\\]|\\\\.)*)\"";
            Pattern says = Pattern.compile("Check\\.says\\(" + literal + ",\\s*((?:" + literal + "[\\s+]*)+)\\);");
            return says.matcher(Files.readString(file)).results().map(found -> {
                String words = Pattern.compile(literal).matcher(found.group(2)).results()
                        .map(piece -> piece.group(1)).reduce("", String::concat);
                return new String[] {found.group(1), words};
            }).toList();
        } catch (IOException e) {
            throw new IllegalStateException(Arrays.toString(e.getStackTrace()), e);
        }
    }
}
