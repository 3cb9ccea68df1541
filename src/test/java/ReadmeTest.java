import java.io.IOException;
import java.lang.reflect.Field;
import java.lang.reflect.InvocationTargetException;
import java.lang.reflect.Method;
import java.lang.reflect.Modifier;
import java.nio.charset.StandardCharsets;
import java.nio.file.Files;
import java.nio.file.Path;
import java.util.ArrayList;
import java.util.List;
import java.util.Map;
import java.util.Set;
import java.util.TreeMap;
import java.util.TreeSet;
import java.util.function.Supplier;
import java.util.function.ToLongFunction;
import java.util.regex.Matcher;
import java.util.regex.Pattern;

/**
 * What README.md shows holds: its tables tell the whole face and no more, each number is refused where they say so and
 * nowhere else, each text and each example answers what stands beside it, and each test is named.
 */
final class ReadmeTest {
    private static final Path README = Path.of("README.md");
    private static final Path TESTS = Path.of("src/test/java");
    private static final Pattern SIGNATURE = Pattern.compile("`(int|long) (\\w+)\\(([^)]*)\\)`");
    private static final Pattern GIVEN = Pattern.compile("(\\w+) (any|a wall or -1|a wall|(\\d+) \\.\\. (\\d+))");
    private static final Pattern REFUSED_AS_THINGS_STAND = Pattern.compile("\\b(STATE|FULL):");
    private static final Pattern PUT = Pattern.compile("put\\(x, \"([^\"]*)\"(?:\\.repeat\\((\\d+)\\))?\\);");
    private static final Pattern CALL = Pattern.compile("x\\.(\\w+)\\(([^)]*)\\);\\s+// (-?\\w+)(:.*)?");

    private static final Map<String, Method> face = new TreeMap<>();
    private static final Map<String, Long> constants = new TreeMap<>();

    public static void main(String[] args) throws Exception {
        for (Method m : SeenCools.class.getDeclaredMethods()) {
            if (Modifier.isPublic(m.getModifiers())) {
                face.put(m.getName(), m);
            }
        }
        for (Field f : SeenCools.class.getFields()) {
            constants.put(f.getName(), (long) f.getInt(null));
        }
        List<String> lines = Files.readAllLines(README, StandardCharsets.US_ASCII);
        List<String[]> rows = rows(lines);
        calls(rows);
        constantsAndTexts(rows);
        traces(rows);
        asThingsStand(rows);
        examples(lines);
        testsAreNamed(rows);
        Due.end("ReadmeTest");
    }

    /** The rows of all tables, cell by cell. */
    private static List<String[]> rows(List<String> lines) {
        List<String[]> rows = new ArrayList<>();
        for (String line : lines) {
            if (line.startsWith("| ")) {
                String[] cells = line.substring(2).split(" *\\| ?", -1);
                rows.add(cells);
            }
        }
        return rows;
    }

    private static void holds(String what, boolean so) {
        Due.due(what, so ? 1 : 0, 1);
    }

    // ---- the tables of the calls

    private static void calls(List<String[]> rows) {
        Set<String> told = new TreeSet<>();
        for (String[] row : rows) {
            Matcher m = SIGNATURE.matcher(row[0]);
            if (m.matches()) {
                Method method = face.get(m.group(2));
                holds(row[0] + " is of the face", method != null);
                holds(row[0] + " has four cells", row.length == 5);
                if (method != null && row.length == 5) {
                    told.add(m.group(2));
                    signature(m, method);
                    given(method, m.group(3), row[1], row[3]);
                }
            }
        }
        Due.due("the calls that are told", told.toString(), face.keySet().toString());
    }

    private static void signature(Matcher m, Method method) {
        StringBuilder types = new StringBuilder();
        for (Class<?> p : method.getParameterTypes()) {
            types.append(types.length() == 0 ? "" : ", ").append(p);
        }
        Due.due("what " + m.group(2) + " takes", m.group(3).replaceAll(" \\w+(,|$)", "$1"), types.toString());
        Due.due("what " + m.group(2) + " answers", m.group(1), method.getReturnType().toString());
    }

    /** Each number in turn is its least, its most, and one beyond each; the others are as they may be. */
    private static void given(Method method, String parameters, String given, String refused) {
        StringBuilder names = new StringBuilder();
        List<long[]> bounds = new ArrayList<>();
        Matcher m = GIVEN.matcher(given);
        while (m.find()) {
            names.append(names.length() == 0 ? "" : ", ").append(m.group(1));
            bounds.add(bounds(m));
        }
        Due.due("the numbers of " + method.getName(), names.toString(), parameters.replaceAll("\\w+ (\\w+)", "$1"));
        boolean any = given.matches(".*\\d.*|.*a wall.*");
        holds(method.getName() + " is refused by BAD or NO if a number may not be all",
            any == refused.matches("(BAD|NO)\\b.*"));
        if (!any) {
            return;
        }
        long bad = constants.get(refused.replaceAll("\\W.*", ""));
        for (int i = 0; i < bounds.size(); i++) {
            long[] bound = bounds.get(i);
            for (long n : tried(bound)) {
                boolean isBad = asked(method, bounds, i, n) == bad;
                holds(method.getName() + " with " + n + " as its number " + i + " is refused or not",
                    isBad == (n < bound[0] || n > bound[1]));
            }
        }
    }

    /** There is nothing beyond what may be any. */
    private static long[] tried(long[] bound) {
        return bound[1] == Long.MAX_VALUE ? bound : new long[] {bound[0] - 1, bound[0], bound[1], bound[1] + 1};
    }

    private static long[] bounds(Matcher m) {
        switch (m.group(2)) {
            case "any": return new long[] {Long.MIN_VALUE, Long.MAX_VALUE};
            case "a wall": return new long[] {0, 2};
            case "a wall or -1": return new long[] {-1, 2};
            default: return new long[] {Long.parseLong(m.group(3)), Long.parseLong(m.group(4))};
        }
    }

    /** Of three WALLS. The other numbers are the most that they may be, or the least if that would be one and the same. */
    private static long asked(Method method, List<long[]> bounds, int which, long n) {
        SeenCools x = Due.yard("wall 80 5;wall 20 2;wall 50 9;sees 0 1 5;sees 1 2 3;work 1 10 15 0;limit 6;");
        long[] numbers = new long[bounds.size()];
        for (int i = 0; i < numbers.length; i++) {
            numbers[i] = bounds.get(i)[1];
        }
        numbers[which] = n;
        if (method.getName().equals("sees") && numbers[0] == numbers[1]) {
            numbers[1 - which] = bounds.get(1 - which)[0];
        }
        return call(x, method, numbers);
    }

    private static long call(SeenCools x, Method method, long[] numbers) {
        Class<?>[] types = method.getParameterTypes();
        Object[] all = new Object[numbers.length];
        for (int i = 0; i < all.length; i++) {
            if (types[i] == long.class) {
                all[i] = numbers[i];
            } else {
                all[i] = (int) numbers[i];
            }
        }
        try {
            return ((Number) method.invoke(x, all)).longValue();
        } catch (IllegalAccessException | InvocationTargetException e) {
            throw new IllegalStateException(method.getName() + " can't be asked", e);
        }
    }

    // ---- the other tables

    private static void constantsAndTexts(List<String[]> rows) {
        Map<String, Long> told = new TreeMap<>();
        int texts = 0;
        for (String[] row : rows) {
            if (row[0].matches("`[A-Z]+`")) {
                told.put(row[0].replace("`", ""), Long.parseLong(row[1]));
            }
            if (row.length == 3 && row[1].matches("-?\\d+")) {
                texts++;
                SeenCools x = new SeenCools();
                Due.put(x, row[0].replace("`", ""));
                Due.due("walls() of " + row[0], x.walls(), Long.parseLong(row[1]));
            }
        }
        Due.due("the constants that are told", told.toString(), constants.toString());
        holds("some texts are told", texts > 5);
    }

    private static void traces(List<String[]> rows) {
        int kinds = 0;
        for (String[] row : rows) {
            if (!row[0].matches("\\d [a-z]+")) {
                continue;
            }
            kinds++;
            long due = 0;
            for (String number : row[2].split(" \\+ ")) {
                due += Long.parseLong(number);
            }
            SeenCools x = Due.yard("wall 80 5;wall 20 2;");
            x.mark(row[0].charAt(0) - '0', 1);
            Due.due("the trace of " + row[0], x.trace(), due);
        }
        Due.due("the kinds that are told", kinds, 6);
    }

    // ---- STATE and FULL

    private static void asThingsStand(List<String[]> rows) {
        Map<String, String> told = new TreeMap<>();
        for (String[] row : rows) {
            Matcher m = SIGNATURE.matcher(row[0]);
            if (m.matches() && row.length == 5) {
                Matcher s = REFUSED_AS_THINGS_STAND.matcher(row[3]);
                if (s.find()) {
                    told.put(m.group(2), s.group(1));
                }
            }
        }
        Map<String, String> due = new TreeMap<>();
        stands(due, "type", "FULL", SeenCools::new, x -> {
            Due.put(x, " ".repeat(250));
            return x.type(32, 1);
        });
        stands(due, "hour", "STATE", SeenCools::new, x -> {
            Due.hours(x, 999);
            return x.hour();
        });
        stands(due, "shut", "STATE", () -> Due.yard("wall 80 5;"), x -> x.shut(0, 0));
        stands(due, "mirror", "STATE", () -> Due.yard("wall 80 5;"), x -> x.mirror(0, 0));
        stands(due, "undo", "STATE", SeenCools::new, SeenCools::undo);
        stands(due, "back", "STATE", SeenCools::new, x -> x.back(1));
        stands(due, "saw", "FULL", () -> Due.yard("wall 80 5;"), x -> {
            for (int i = 0; i < 8; i++) {
                x.saw(0, 0, 80);
            }
            return x.saw(0, 0, 80);
        });
        Due.due("what is refused as things stand", told.toString(), due.toString());
    }

    private static void stands(Map<String, String> due, String name, String constant, Supplier<SeenCools> made,
            ToLongFunction<SeenCools> asks) {
        due.put(name, constant);
        Due.due(name + " as things stand", asks.applyAsLong(made.get()), constants.get(constant));
    }

    // ---- the examples

    private static void examples(List<String> lines) throws IOException {
        Set<String> shown = new TreeSet<>();
        SeenCools x = null;
        boolean within = false;
        StringBuilder helper = new StringBuilder();
        for (String line : lines) {
            if (line.startsWith("```")) {
                within = line.equals("```java");
                x = null;
            } else if (within && line.equals("SeenCools x = new SeenCools();")) {
                x = new SeenCools();
            } else if (within && x == null) {
                helper.append(line.isEmpty() ? "" : "    ").append(line).append('\n');
            } else if (within && !line.isEmpty()) {
                example(x, line, shown);
            }
        }
        Due.due("the calls that are shown", shown.toString(), face.keySet().toString());
        holds("a helper is shown", helper.length() > 0);
        holds("it is the one that the tests use", Files.readString(TESTS.resolve("Due.java")).contains(helper));
    }

    private static void example(SeenCools x, String line, Set<String> shown) {
        Matcher put = PUT.matcher(line);
        Matcher call = CALL.matcher(line);
        if (put.matches()) {
            int times = put.group(2) == null ? 1 : Integer.parseInt(put.group(2));
            Due.put(x, put.group(1).repeat(times));
            return;
        }
        holds("README.md can be followed: " + line, call.matches() && face.containsKey(call.group(1)));
        if (call.matches() && face.containsKey(call.group(1))) {
            shown.add(call.group(1));
            Due.due("README.md: " + line, call(x, face.get(call.group(1)), numbers(call.group(2))), due(call.group(3)));
        }
    }

    private static long[] numbers(String list) {
        if (list.isEmpty()) {
            return new long[0];
        }
        String[] all = list.split(", ");
        long[] numbers = new long[all.length];
        for (int i = 0; i < all.length; i++) {
            numbers[i] = Long.decode(all[i]);
        }
        return numbers;
    }

    private static long due(String answer) {
        return constants.containsKey(answer) ? constants.get(answer) : Long.parseLong(answer);
    }

    // ---- the tests

    private static void testsAreNamed(List<String[]> rows) throws IOException {
        Set<String> told = new TreeSet<>();
        for (String[] row : rows) {
            if (row[0].matches("`\\w+Test`")) {
                told.add(row[0].replace("`", ""));
            }
        }
        Set<String> there = new TreeSet<>();
        try (var files = Files.list(TESTS)) {
            files.map(f -> f.getFileName().toString()).filter(f -> f.endsWith("Test.java"))
                .forEach(f -> there.add(f.replace(".java", "")));
        }
        Due.due("the tests that are told", told.toString(), there.toString());
    }
}
