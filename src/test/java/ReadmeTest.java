import java.io.File;
import java.lang.reflect.Method;
import java.lang.reflect.Modifier;
import java.nio.file.Files;
import java.nio.file.Path;
import java.util.List;
import java.util.Set;
import java.util.TreeSet;
import java.util.regex.Matcher;
import java.util.regex.Pattern;

/** README.md: its examples answer as told there, its table names every call, its list every test. */
public final class ReadmeTest {
    private static final Pattern CALL = Pattern.compile("^x\\.(\\w+)\\((.*)\\);\\s+// (-?\\d+|true|false)\\b.*");
    private static final Pattern ROW = Pattern.compile("^\\| (NONE|-2|-3|false) \\| ([^|]*) \\|.*");
    private static final Set<String> ALWAYS_ANSWERED = Set.of("quiet", "guards", "selves", "marks");

    public static void main(String[] args) throws Exception {
        List<String> lines = Files.readAllLines(Path.of("README.md"));
        examples(lines);
        table(lines);
        tests(String.join("\n", lines));
        Check.finish("ReadmeTest");
    }

    private static void examples(List<String> lines) throws Exception {
        OneWayTown x = new OneWayTown();
        int run = 0;
        for (String line : lines) {
            Matcher call = CALL.matcher(line);
            if (line.startsWith("x.")) {
                Check.due("an example that tells its answer: " + line, call.matches(), true);
            }
            if (call.matches()) {
                Object got = invoke(x, call.group(1), call.group(2));
                Check.due(line + " (answered " + got + "), as told", got.toString().equals(call.group(3)), true);
                run++;
            }
        }
        Check.due("examples were found", run > 40, true);
    }

    private static Method named(String name) {
        for (Method method : OneWayTown.class.getDeclaredMethods()) {
            if (Modifier.isPublic(method.getModifiers()) && method.getName().equals(name)) {
                return method;
            }
        }
        throw new IllegalArgumentException("no such call: " + name);
    }

    private static Object invoke(OneWayTown x, String name, String told) throws Exception {
        Method method = named(name);
        String[] parts = told.isEmpty() ? new String[0] : told.split(",\\s*");
        Object[] values = new Object[parts.length];
        for (int i = 0; i < parts.length; i++) {
            Class<?> type = method.getParameterTypes()[i];
            values[i] = type == boolean.class ? (Object) Boolean.valueOf(parts[i])
                    : type == long.class ? (Object) Long.decode(parts[i].replace("L", "")) : (Object) Integer.decode(parts[i]);
        }
        return method.invoke(x, values);
    }

    private static void table(List<String> lines) {
        TreeSet<String> due = new TreeSet<>(List.of("-2 house", "-2 carts", "-2 wrong", "-2 mended", "-3 carts", "-3 mended"));
        for (Method method : OneWayTown.class.getDeclaredMethods()) {
            if (Modifier.isPublic(method.getModifiers()) && !ALWAYS_ANSWERED.contains(method.getName())) {
                due.add((method.getReturnType() == boolean.class ? "false " : "NONE ") + method.getName());
            }
        }
        TreeSet<String> told = new TreeSet<>();
        for (String line : lines) {
            Matcher row = ROW.matcher(line);
            if (row.matches()) {
                for (String name : row.group(2).split(" ")) {
                    told.add(row.group(1) + " " + name.replace("`", ""));
                }
            }
        }
        for (String each : due) {
            Check.due("README tells of " + each, told.contains(each), true);
        }
        for (String each : told) {
            Check.due("there is such an answer: " + each, due.contains(each), true);
        }
    }

    private static void tests(String readme) {
        for (File file : new File("src/test/java").listFiles()) {
            String name = file.getName().replace(".java", "");
            if (name.endsWith("Test")) {
                Check.due("README lists " + name, readme.contains("`" + name + "`"), true);
            }
        }
    }
}
