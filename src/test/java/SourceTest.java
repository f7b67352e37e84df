import java.nio.file.Files;
import java.nio.file.Path;
import java.util.Arrays;
import java.util.List;
import java.util.TreeSet;
import java.lang.reflect.Constructor;
import java.lang.reflect.Field;
import java.lang.reflect.Method;
import java.lang.reflect.Modifier;
import java.util.regex.Matcher;
import java.util.regex.Pattern;

/** The rules of LANGUAGE.md, as far as they can be seen from the file and the compiled class. */
public final class SourceTest {
    private static final String[] FACE = {"feed", "end", "town", "fault", "house", "way", "far", "farthest", "middle",
        "post", "grow", "move", "live", "years", "undo", "redo", "wardens", "quiet", "guards", "news", "tidings", "wells",
        "shops", "counted", "quarters", "bestNews", "carts", "alike", "selves", "unlike", "marks", "grown", "tried",
        "joined", "lies", "distance", "untell", "later", "wrong", "mended", "image", "back", "about"};

    public static void main(String[] args) throws Exception {
        List<String> lines = Files.readAllLines(Path.of("src/main/java/OneWayTown.java"));
        StringBuilder code = new StringBuilder();
        for (String line : lines) {
            String bare = line.strip();
            boolean comment = bare.startsWith("*") || bare.startsWith("/*") || bare.startsWith("//");
            code.append(comment ? "" : line).append('\n');
        }
        words(code.toString());
        face();
        nested();
        shortMethods(code.toString());
        Check.finish("SourceTest");
    }

    private static void words(String code) {
        String[] banned = {"throw", "throws", "try", "catch", "finally", "synchronized", "assert", "import", "package",
            "Object", "Thread", "hashCode", "toString", "NaN", "Exact", "var", "volatile", "native", "float", "double"};
        for (String word : banned) {
            Check.due("the word " + word, Pattern.compile("\\b" + word + "\\b").matcher(code).find(), false);
        }
        Check.due("a lambda", code.contains("->"), false);
        Check.due("a method reference", code.contains("::"), false);
        Check.due("an Exact function", Pattern.compile("Exact\\(").matcher(code).find(), false);
        Check.due("a static block", Pattern.compile("static\\s*\\{").matcher(code).find(), false);
        for (char sign : code.toCharArray()) {
            if (sign > 126) {
                Check.due("a sign above 126", sign, 0);
            }
        }
        Matcher fields = Pattern.compile("(?m)^\\s*(?:private |public )?static (?!final|int|boolean|void|long)").matcher(code);
        Check.due("a static field that is not final", fields.find(), false);
    }

    private static void face() {
        Class<?> type = OneWayTown.class;
        TreeSet<String> seen = new TreeSet<>();
        for (Method method : type.getDeclaredMethods()) {
            boolean open = !Modifier.isPrivate(method.getModifiers());
            if (open) {
                seen.add(method.getName());
                Check.due("public: " + method.getName(), Modifier.isPublic(method.getModifiers()), true);
            } else {
                Check.due("private, of a public one's name: " + method.getName(),
                        Arrays.asList(FACE).contains(method.getName()), false);
            }
        }
        Check.due("the methods of the face", seen.equals(new TreeSet<>(Arrays.asList(FACE))), true);
        for (Field field : type.getDeclaredFields()) {
            boolean open = !Modifier.isPrivate(field.getModifiers());
            Check.due("field " + field.getName(), open, field.getName().equals("NONE"));
        }
        Constructor<?>[] makers = type.getDeclaredConstructors();
        Check.due("one constructor", makers.length, 1);
        Check.due("a final class", Modifier.isFinal(type.getModifiers()), true);
    }

    private static void nested() {
        Class<?>[] inside = OneWayTown.class.getDeclaredClasses();
        Check.due("at most twelve classes", inside.length + 1 <= 12, true);
        for (Class<?> type : inside) {
            Check.due("static: " + type, Modifier.isStatic(type.getModifiers()), true);
            int fields = 0;
            for (Field field : type.getDeclaredFields()) {
                boolean still = Modifier.isStatic(field.getModifiers());
                Check.due("final: " + field, !still || Modifier.isFinal(field.getModifiers()), true);
                fields += still ? 0 : 1;
            }
            Check.due("fields of " + type + " are at most twenty", fields <= 20, true);
            for (Method method : type.getDeclaredMethods()) {
                Check.due("a public one's name: " + method, Arrays.asList(FACE).contains(method.getName()), false);
                Check.due("parameters of " + method, method.getParameterCount() <= 7, true);
            }
        }
    }

    private static void shortMethods(String code) {
        String[] lines = code.split("\n");
        for (int i = 0; i < lines.length; i++) {
            Matcher head = Pattern.compile("^(\\s+)(?:[\\w\\[\\]<>]+ )+\\w+\\(.*\\{$").matcher(lines[i]);
            if (head.find() && head.group(1).length() <= 8 && !lines[i].contains("class ")) {
                int end = i;
                while (end < lines.length - 1 && !lines[end].equals(head.group(1) + "}")) {
                    end++;
                }
                Check.due("a long method at line " + (i + 1), end - i <= 60, true);
            }
        }
    }
}
