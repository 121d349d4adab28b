import java.io.IOException;
import java.lang.reflect.Field;
import java.lang.reflect.Method;
import java.lang.reflect.Modifier;
import java.nio.file.Files;
import java.nio.file.Path;
import java.util.ArrayList;
import java.util.List;
import java.util.Set;
import java.util.TreeSet;
import java.util.regex.Matcher;
import java.util.regex.Pattern;
import java.util.stream.Stream;

/** What README.md says of the class and of the tests is true of them. */
public final class ReadmeTest {
    private static final Pattern CALL =
            Pattern.compile("ferry\\.(\\w+)\\(([^)]*)\\);\\s+// ([^:]+): .+");
    private static final Pattern ROW =
            Pattern.compile("(?m)^\\| `(?:int|long) (\\w+)\\(([^)]*)\\)` \\| ([^|]*) \\| ([^|]*)\\|$");
    private static final Pattern LIMIT = Pattern.compile("\\((\\d+) to (\\d+)\\)");
    private static final Pattern WHAT = Pattern.compile("(?<![\\d(])(\\d+) [a-z]");

    private static String readme;

    public static void main(String[] args) throws IOException, ReflectiveOperationException {
        readme = Files.readString(Path.of("README.md"));
        examples();
        everyCallStandsInTheTable();
        constants();
        limits();
        whats();
        hooks();
        everyTestStandsInTheTable();
        Due.end();
    }

    private static void examples() throws ReflectiveOperationException {
        Due.sentence("README: examples");
        FerryDecks ferry = null;
        int calls = 0;
        Matcher blocks = Pattern.compile("(?s)```java\n(.*?)```").matcher(readme);
        while (blocks.find()) {
            for (String line : blocks.group(1).split("\n")) {
                Matcher call = CALL.matcher(line);
                if (line.equals("FerryDecks ferry = new FerryDecks();")) {
                    ferry = new FerryDecks();
                } else if (call.matches()) {
                    calls++;
                    Due.is(line, answer(ferry, call.group(1), numbers(call.group(2))), value(call.group(3)));
                } else {
                    Due.is("a line that is no call: " + line, 0, 1);
                }
            }
        }
        Due.is("enough calls", calls > 20 ? 1 : 0, 1);
    }

    private static void everyCallStandsInTheTable() {
        Due.sentence("README: calls");
        Set<String> face = new TreeSet<>();
        for (Method method : FerryDecks.class.getDeclaredMethods()) {
            if (Modifier.isPublic(method.getModifiers())) {
                face.add(method.getReturnType() + " " + method.getName() + method.getParameterCount());
            }
        }
        Set<String> listed = new TreeSet<>();
        Matcher row = ROW.matcher(readme);
        while (row.find()) {
            String type = row.group().substring(3).split(" ")[0];
            listed.add(type + " " + row.group(1) + parameters(row.group(2)).size());
            Due.is(row.group(1) + ": a call with parameters, and it alone, may be BAD",
                    row.group(4).contains("`BAD`") ? 1 : 0, parameters(row.group(2)).isEmpty() ? 0 : 1);
        }
        Due.is("listed " + listed + ", the class has " + face, listed.equals(face) ? 1 : 0, 1);
    }

    private static void constants() throws ReflectiveOperationException {
        Due.sentence("README: constants");
        for (Field field : FerryDecks.class.getDeclaredFields()) {
            if (Modifier.isPublic(field.getModifiers())) {
                String words = "`" + field.getName() + "` is " + field.getInt(null);
                Due.is(words, Pattern.compile(words + "\\b").matcher(readme).find() ? 1 : 0, 1);
            }
        }
    }

    /** The limits that a row tells, in their order, of the parameters of these places. */
    private static void limits() throws ReflectiveOperationException {
        Due.sentence("README: limits");
        limitsOf("term", new int[] {3, 5}, 0, 1);
        limitsOf("deck", new int[] {1, 5}, 0, 1);
        limitsOf("vehicle", new int[] {1, 5, 5}, 0, 1, 2);
        limitsOf("ask", new int[] {0, 1, 1}, 1);
        limitsOf("board", new int[] {0, 0, 1, 1}, 3);
    }

    private static void limitsOf(String name, int[] good, int... places) throws ReflectiveOperationException {
        Matcher limit = LIMIT.matcher(row(name));
        for (int place : places) {
            Due.is(name + " has a limit of parameter " + place, limit.find() ? 1 : 0, 1);
            int least = Integer.parseInt(limit.group(1));
            int most = Integer.parseInt(limit.group(2));
            Due.is(name + " of one below", refused(name, with(good, place, least - 1)), 1);
            Due.is(name + " of the least", refused(name, with(good, place, least)), 0);
            Due.is(name + " of the most", refused(name, with(good, place, most)), 0);
            Due.is(name + " of one above", refused(name, with(good, place, most + 1)), 1);
        }
        Due.is(name + " has more limits", limit.find() ? 1 : 0, 0);
    }

    private static void whats() throws ReflectiveOperationException {
        Due.sentence("README: what");
        whatsOf("told", new int[] {0, 0}, 1);
        whatsOf("on", new int[] {0, 0}, 1);
        whatsOf("count", new int[] {0}, 0);
    }

    private static void whatsOf(String name, int[] good, int place) throws ReflectiveOperationException {
        Matcher what = WHAT.matcher(row(name));
        int next = 0;
        while (what.find()) {
            Due.is(name + "'s numbers", Integer.parseInt(what.group(1)), next);
            Due.is(name + " of " + next, refused(name, with(good, place, next)), 0);
            next++;
        }
        Due.is(name + " of " + next, refused(name, with(good, place, next)), 1);
    }

    private static void hooks() {
        Due.sentence("README: hooks");
        Matcher hooked = Pattern.compile("Those with a hook: ([\\d, ]+)\\.").matcher(readme);
        Due.is("hooks are told", hooked.find() ? 1 : 0, 1);
        List<String> kinds = List.of(hooked.group(1).split(", "));
        for (int kind = 1; kind <= 9; kind++) {
            FerryDecks ferry = new FerryDecks();
            ferry.vehicle(kind, 5, 5);
            int due = kinds.contains(String.valueOf(kind)) ? 1 : FerryDecks.CAST;
            Due.is("pull of kind " + kind, ferry.pull(0, 1), due);
        }
    }

    private static void everyTestStandsInTheTable() throws IOException {
        Due.sentence("README: tests");
        Set<String> listed = new TreeSet<>();
        Matcher row = Pattern.compile("(?m)^\\| `(\\w+Test)` \\|").matcher(readme);
        while (row.find()) {
            listed.add(row.group(1) + ".java");
        }
        Set<String> there = new TreeSet<>();
        try (Stream<Path> files = Files.list(Path.of("src/test/java"))) {
            files.map(file -> file.getFileName().toString())
                    .filter(name -> name.endsWith("Test.java")).forEach(there::add);
        }
        Due.is("listed " + listed + ", there are " + there, listed.equals(there) ? 1 : 0, 1);
    }

    /** The cell of what a call does; empty, if there is no such row. */
    private static String row(String name) {
        Matcher row = ROW.matcher(readme);
        while (row.find()) {
            if (row.group(1).equals(name)) {
                return row.group(3);
            }
        }
        return "";
    }

    /** 1 if the call answers BAD on a ferry with one vehicle and metres on each deck. */
    private static long refused(String name, int[] args) throws ReflectiveOperationException {
        FerryDecks ferry = new FerryDecks();
        for (int d = 0; d < 3; d++) {
            ferry.deck(d, 50);
        }
        ferry.vehicle(3, 5, 5);
        long got = answer(ferry, name, args);
        boolean isLong = name.equals("ask") || name.equals("told");
        return got == (isLong ? Long.MIN_VALUE : FerryDecks.BAD) ? 1 : 0;
    }

    private static int[] with(int[] good, int place, int value) {
        int[] args = good.clone();
        args[place] = value;
        return args;
    }

    private static long answer(FerryDecks ferry, String name, int[] args) throws ReflectiveOperationException {
        Class<?>[] types = new Class<?>[args.length];
        Object[] values = new Object[args.length];
        for (int i = 0; i < args.length; i++) {
            types[i] = int.class;
            values[i] = args[i];
        }
        return ((Number) FerryDecks.class.getMethod(name, types).invoke(ferry, values)).longValue();
    }

    /** A number, a constant of the class, or Long.MIN_VALUE with or without a number more. */
    private static long value(String text) throws ReflectiveOperationException {
        if (text.startsWith("Long.MIN_VALUE")) {
            String more = text.substring("Long.MIN_VALUE".length()).replace("+", "").trim();
            return Long.MIN_VALUE + (more.isEmpty() ? 0 : Long.parseLong(more));
        }
        if (Character.isLetter(text.charAt(0))) {
            return FerryDecks.class.getField(text).getInt(null);
        }
        return Long.parseLong(text);
    }

    private static List<String> parameters(String text) {
        List<String> found = new ArrayList<>();
        for (String parameter : text.split(",")) {
            if (!parameter.isBlank()) {
                found.add(parameter.trim());
            }
        }
        return found;
    }

    private static int[] numbers(String text) {
        return parameters(text).stream().mapToInt(Integer::parseInt).toArray();
    }
}
