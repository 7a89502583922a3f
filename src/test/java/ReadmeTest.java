import java.io.IOException;
import java.lang.reflect.InvocationTargetException;
import java.lang.reflect.Method;
import java.nio.file.Files;
import java.nio.file.Path;
import java.util.ArrayList;
import java.util.Arrays;
import java.util.HashMap;
import java.util.List;
import java.util.Map;
import java.util.Set;
import java.util.TreeMap;
import java.util.TreeSet;
import java.util.regex.MatchResult;
import java.util.regex.Matcher;
import java.util.regex.Pattern;
import java.util.stream.Collectors;
import java.util.stream.Stream;

/**
 * What README.md says of the class is what the class answers, and what it says of the tests is
 * what is there. Its place is the property "readme".
 */
public final class ReadmeTest {
    private static final Path README = Path.of(System.getProperty("readme", "README.md"));
    private static final String MAKING = "MuseumHouse house = new MuseumHouse();";
    private static final Pattern CALL = Pattern.compile(
        "(?:int (\\w+) = )?house\\.(\\w+)\\(([^)]*)\\); *// (throws \\w+|\\w+)(?:: .+)?");

    private static final Map<String, Integer> NAMED = new HashMap<>();
    private static MuseumHouse house;

    public static void main(String[] args) throws IOException, ReflectiveOperationException {
        String text = Files.readString(README);
        examples(text);
        kinds(rows(text, "Handles"));
        rights(rows(text, "Rights"));
        calls(rows(text, "Calls"));
        rules(rows(text, "Rules"));
        tests(text);
        Checks.end();
    }

    private static void examples(String text) throws ReflectiveOperationException {
        Set<String> called = new TreeSet<>();
        Matcher block = Pattern.compile("(?s)```java\n(.*?)```").matcher(text);
        while (block.find()) {
            for (String line : block.group(1).split("\n")) {
                if (line.equals(MAKING)) {
                    house = new MuseumHouse();
                } else {
                    called.add(example(line));
                }
            }
        }
        Checks.equal(face().keySet().toString(), called.toString());
    }

    /** The name of the call. */
    private static String example(String line) throws ReflectiveOperationException {
        Matcher call = CALL.matcher(line);
        if (!call.matches()) {
            Checks.equal("a call and its answer", line);
            return line;
        }
        String answer = answer(call.group(2), call.group(3));
        Checks.equal(line + " " + call.group(4), line + " " + answer);
        if (call.group(1) != null) {
            NAMED.put(call.group(1), Integer.valueOf(answer));
        }
        return call.group(2);
    }

    private static String answer(String name, String values) throws ReflectiveOperationException {
        Object[] numbers = Stream.of(values.split(", ")).filter(value -> !value.isEmpty())
            .map(value -> NAMED.containsKey(value) ? NAMED.get(value) : Integer.valueOf(value))
            .toArray();
        Class<?>[] types = new Class<?>[numbers.length];
        Arrays.fill(types, int.class);
        try {
            return String.valueOf(MuseumHouse.class.getMethod(name, types).invoke(house, numbers));
        } catch (InvocationTargetException thrown) {
            return "throws " + thrown.getCause().getClass().getSimpleName();
        }
    }

    private static Map<String, Integer> face() {
        return Stream.of(MuseumHouse.class.getMethods())
            .filter(method -> method.getDeclaringClass() == MuseumHouse.class)
            .collect(Collectors.toMap(Method::getName, Method::getParameterCount, Integer::sum,
                TreeMap::new));
    }

    private static void kinds(List<String[]> rows) {
        Checks.due(9, rows::size);
        for (int kind = 1; kind <= rows.size(); kind++) {
            String[] row = rows.get(kind - 1);
            MuseumHouse full = Houses.readyFor(kind).again();
            List<Integer> made = new ArrayList<>();
            if (kind == 1) {
                made.add(100);
            }
            int handle = makeOne(full, kind, made.size());
            while (handle != 0) {
                made.add(handle);
                handle = makeOne(full, kind, made.size());
            }
            Checks.due(3, full::rule);
            Checks.equal(row[0], String.valueOf(kind));
            Checks.equal(row[2], made.get(0) + " .. " + made.get(made.size() - 1));
            Checks.equal(row[1], unquoted(row[3]) + "s");
            Checks.due(true, () -> face().containsKey(unquoted(row[3])));
        }
    }

    /** 0 if it is refused. */
    private static int makeOne(MuseumHouse full, int kind, int number) {
        try {
            return Houses.make(full, kind, number);
        } catch (IllegalStateException noRoom) {
            return 0;
        }
    }

    /** A desk with the right alone may do what is in its row, and nothing that is in another. */
    private static void rights(List<String[]> rows) {
        Checks.due(6, rows::size);
        Set<String> asking = new TreeSet<>();
        for (String[] row : rows) {
            int right = Integer.parseInt(row[0]);
            Set<String> may = new TreeSet<>();
            for (Houses.Slot slot : Houses.DESK_SLOTS) {
                MuseumHouse h = Houses.furnished().again();
                int desk = h.desk(100, right);
                Checks.told(() -> {
                    slot.call().accept(h, desk);
                    return 0;
                });
                if (h.rule() == 0) {
                    may.add(slot.name().split(" ")[0]);
                }
            }
            Checks.equal(new TreeSet<>(Arrays.asList(unquoted(row[2]).split(", "))).toString(),
                may.toString());
            asking.addAll(may);
        }
        Checks.equal(askedForARight().toString(), asking.toString());
    }

    private static Set<String> askedForARight() {
        return Houses.REFUSED_BY.entrySet().stream()
            .filter(call -> call.getValue().contains(2))
            .map(Map.Entry::getKey).collect(Collectors.toCollection(TreeSet::new));
    }

    /** ModelTest holds the table of Houses against what its runs met. */
    private static void calls(List<String[]> rows) {
        Map<String, Integer> face = face();
        Checks.due(face.size(), rows::size);
        inTheDocument(rows);
        for (String[] row : rows) {
            String[] call = unquoted(row[0]).split("[()]");
            int parameters = call.length == 1 ? 0 : call[1].split(", ").length;
            Checks.equal(call[0] + parameters, call[0] + face.get(call[0]));
            Checks.equal(row[2], Houses.REFUSED_BY.getOrDefault(call[0], List.of()).stream()
                .map(String::valueOf).collect(Collectors.joining(" ")));
        }
    }

    /** The calls stand in the document's order, with its names for what is told to them. */
    private static void inTheDocument(List<String[]> rows) {
        List<MatchResult> face = Document.face();
        for (int at = 0; at < Math.min(face.size(), rows.size()); at++) {
            String name = face.get(at).group(1).split(" ")[1];
            String parameters = face.get(at).group(2).replace("int ", "");
            Checks.equal("`" + name + "(" + parameters + ")`", rows.get(at)[0]);
        }
    }

    private static void rules(List<String[]> rows) {
        Checks.due(17, rows::size);
        for (int rule = 1; rule <= rows.size(); rule++) {
            String[] row = rows.get(rule - 1);
            Checks.equal(String.valueOf(rule), row[0]);
            Checks.due(true, () -> Checks.exceptionOf(Integer.parseInt(row[0]))
                .endsWith("." + row[1]));
        }
    }

    /** Every file of the tests is named, and nothing that is not there. */
    private static void tests(String text) throws IOException {
        Path root = README.toAbsolutePath().getParent();
        String told = text.substring(text.indexOf("\n## Tests\n"));
        Set<String> there = new TreeSet<>();
        try (Stream<Path> files = Files.list(root.resolve("src/test/java"))) {
            files.map(file -> file.getFileName().toString().replace(".java", ""))
                .forEach(there::add);
        }
        Set<String> named = new TreeSet<>();
        Matcher name = Pattern.compile("`([A-Z]\\w+)`").matcher(told);
        while (name.find()) {
            named.add(name.group(1));
        }
        Checks.equal(there.toString(), named.toString());
        Checks.due(true, () -> Files.isExecutable(root.resolve(".ci/run")));
    }

    /** The rows of the table under a heading, without its head. */
    private static List<String[]> rows(String text, String heading) {
        String part = text.substring(text.indexOf("\n### " + heading + "\n") + 1);
        int end = part.indexOf("\n#");
        return part.substring(0, end < 0 ? part.length() : end).lines()
            .filter(line -> line.startsWith("|")).skip(2)
            .map(line -> Stream.of(line.substring(1).split("\\|")).map(String::trim)
                .toArray(String[]::new))
            .toList();
    }

    private static String unquoted(String cell) {
        return cell.replace("`", "");
    }
}
