import java.io.IOException;
import java.lang.reflect.Method;
import java.lang.reflect.Modifier;
import java.nio.file.Files;
import java.nio.file.Path;
import java.util.HashMap;
import java.util.HashSet;
import java.util.List;
import java.util.Map;
import java.util.Set;
import java.util.TreeSet;
import java.util.regex.Matcher;
import java.util.regex.Pattern;
import java.util.stream.Stream;

/** README.md: the calls that it shows answer what it says of them, and what it names is there. */
public final class ReadmeTest {
    private static final String NEW_HOUSE = "SealedHouse house = new SealedHouse();";
    private static final Pattern CALL = Pattern.compile(
            "(?:(int )?(\\w+) = )?house\\.(\\w+)\\(([^()]*)\\); +// (-?\\d+|[A-Z]+)(?:$|[:;] .*)");
    private static final Pattern ANSWER = Pattern.compile("\\| `([A-Z]+)` \\((-\\d+)\\) \\|.*");

    private static final Pattern NAMED = Pattern.compile("\\| `(\\w+)\\(([\\w, ]*)\\)` \\| .* \\|");

    private final Map<String, Integer> names = new HashMap<>();
    private final Set<String> shown = new TreeSet<>();
    private SealedHouse house;

    private ReadmeTest() {
    }

    public static void main(String[] args) throws IOException, ReflectiveOperationException {
        List<String> lines = Files.readAllLines(Path.of("README.md"));
        new ReadmeTest().examples(lines);
        answers(lines);
        calls(lines);
        tests(String.join("\n", lines));
        Check.end();
    }

    private void examples(List<String> lines) throws ReflectiveOperationException {
        boolean inside = false;
        int blocks = 0;
        for (String line : lines) {
            if (line.startsWith("```")) {
                inside = line.equals("```java");
                blocks += inside ? 1 : 0;
                names.clear();
                house = null;
            } else if (inside) {
                statement(line);
            }
        }
        Check.due("blocks of calls", blocks > 0 ? 1 : 0, 1);
        Set<String> face = new TreeSet<>();
        for (Method m : face()) {
            face.add(m.getName());
        }
        face.removeAll(shown);
        Check.due("calls that are not shown: " + face, face.size(), 0);
    }

    /** A line of another form would be one that nobody looks at, so that there may be none. */
    private void statement(String line) throws ReflectiveOperationException {
        if (line.equals(NEW_HOUSE)) {
            Check.due("a house in this block already", house == null ? 0 : 1, 0);
            house = new SealedHouse();
            return;
        }
        Matcher m = CALL.matcher(line);
        boolean fits = m.matches() && house != null;
        Check.due("a call with its answer: " + line, fits ? 1 : 0, 1);
        if (!fits) {
            return;
        }
        int got = call(m.group(3), m.group(4));
        Check.due(line, got, value(m.group(5)));
        if (m.group(2) != null) {
            Check.due("declared once: " + line, names.containsKey(m.group(2)) ? 0 : 1,
                    m.group(1) == null ? 0 : 1);
            names.put(m.group(2), got);
        }
    }

    private int call(String name, String text) throws ReflectiveOperationException {
        String[] parts = text.isEmpty() ? new String[0] : text.split(", ");
        Class<?>[] types = new Class<?>[parts.length];
        Object[] values = new Object[parts.length];
        for (int i = 0; i < parts.length; i++) {
            types[i] = int.class;
            values[i] = value(parts[i]);
        }
        shown.add(name);
        return (Integer) SealedHouse.class.getMethod(name, types).invoke(house, values);
    }

    private int value(String text) throws ReflectiveOperationException {
        if (names.containsKey(text)) {
            return names.get(text);
        }
        if (text.matches("[A-Z]+")) {
            return SealedHouse.class.getField(text).getInt(null);
        }
        return Integer.parseInt(text);
    }

    private static void answers(List<String> lines) throws ReflectiveOperationException {
        Set<String> told = new HashSet<>();
        for (String line : lines) {
            Matcher m = ANSWER.matcher(line);
            if (m.matches()) {
                int constant = SealedHouse.class.getField(m.group(1)).getInt(null);
                Check.due(line, Integer.parseInt(m.group(2)), constant);
                told.add(m.group(1));
            }
        }
        Check.due("constants that are told", told.size(), 4);
    }

    private static void calls(List<String> lines) {
        Set<String> told = new TreeSet<>();
        for (String line : lines) {
            Matcher m = NAMED.matcher(line);
            if (m.matches()) {
                int parameters = m.group(2).isEmpty() ? 0 : m.group(2).split(", ").length;
                told.add(m.group(1) + " " + parameters);
            }
        }
        Set<String> face = new TreeSet<>();
        for (Method m : face()) {
            face.add(m.getName() + " " + m.getParameterCount());
        }
        Check.due("calls told " + told + ", there are " + face, told.equals(face) ? 1 : 0, 1);
    }

    private static List<Method> face() {
        return Stream.of(SealedHouse.class.getDeclaredMethods())
                .filter(m -> Modifier.isPublic(m.getModifiers())).toList();
    }

    private static void tests(String text) throws IOException {
        Set<String> named = new TreeSet<>();
        Matcher m = Pattern.compile("`(\\w+Test)`").matcher(text);
        while (m.find()) {
            named.add(m.group(1));
        }
        Set<String> there = new TreeSet<>();
        try (Stream<Path> files = Files.list(Path.of("src/test/java"))) {
            files.map(f -> f.getFileName().toString()).filter(f -> f.endsWith("Test.java"))
                    .forEach(f -> there.add(f.substring(0, f.length() - ".java".length())));
        }
        Check.due("tests named " + named + ", there are " + there, named.equals(there) ? 1 : 0, 1);
        Check.due(".ci/run", Files.isExecutable(Path.of(".ci/run")) ? 1 : 0, 1);
    }
}
