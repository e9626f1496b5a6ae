import java.io.IOException;
import java.lang.reflect.Method;
import java.lang.reflect.Modifier;
import java.nio.file.Files;
import java.nio.file.Path;
import java.util.ArrayList;
import java.util.HashMap;
import java.util.LinkedHashMap;
import java.util.List;
import java.util.Map;
import java.util.Set;
import java.util.TreeSet;
import java.util.regex.MatchResult;
import java.util.regex.Pattern;
import java.util.stream.Collectors;
import java.util.stream.Stream;

/** Whether all that README.md says holds: against the class, the document and the tests. */
public final class ReadmeTest {
    private static final Path TESTS = Path.of("src/test/java");

    private final String page;
    private final String document;
    private final Map<String, UncrossedBook> books = new HashMap<>();
    private final Set<String> called = new TreeSet<>();

    private ReadmeTest() throws IOException {
        page = Files.readString(Path.of("README.md"));
        document = Files.readString(Path.of("../shared/DOC.md"));
    }

    public static void main(String[] args) throws Exception {
        ReadmeTest test = new ReadmeTest();
        test.examples();
        test.calls();
        test.refusals();
        test.numbers();
        test.tests();
        test.paths();
        test.commands();
        Due.end();
    }

    private static void holds(String what, boolean is) {
        Due.is(what, is ? 1 : 0, 1);
    }

    private static List<MatchResult> all(String pattern, String text) {
        return Pattern.compile(pattern).matcher(text).results().collect(Collectors.toList());
    }

    /** Each line of the page's blocks of one language. */
    private List<String> lines(String language) {
        List<String> lines = new ArrayList<>();
        for (MatchResult block : all("(?ms)^```" + language + "\n(.*?)^```$", page)) {
            block.group(1).lines().forEach(lines::add);
        }
        return lines;
    }

    /** The rows under a table's head, cells by cells. */
    private List<String[]> table(String head) {
        List<String[]> rows = new ArrayList<>();
        for (MatchResult table : all("(?m)^" + Pattern.quote(head) + "\n[| -]+\n((?:\\|.*\n)+)", page)) {
            table.group(1).lines().forEach(row -> rows.add(row.substring(2, row.length() - 2).split(" \\| ")));
        }
        holds("README.md has the table " + head, !rows.isEmpty());
        return rows;
    }

    // ---- examples

    private void examples() throws ReflectiveOperationException {
        Set<String> face = new TreeSet<>();
        for (Method method : UncrossedBook.class.getDeclaredMethods()) {
            if (Modifier.isPublic(method.getModifiers())) {
                face.add(method.getName());
            }
        }
        for (String line : lines("java")) {
            example(line);
        }
        face.removeAll(called);
        holds("calls without an example: " + face, face.isEmpty());
    }

    private void example(String line) throws ReflectiveOperationException {
        List<MatchResult> made = all("^UncrossedBook (\\w+) = new UncrossedBook\\(\\);  // \\S.*$", line);
        List<MatchResult> call = all("^(\\w+)\\.(\\w+)\\(([-\\d, ]*)\\);  // (-?\\d+): \\S.*$", line);
        if (!made.isEmpty()) {
            holds("made once: " + line, books.put(made.get(0).group(1), new UncrossedBook()) == null);
        } else if (!call.isEmpty() && books.containsKey(call.get(0).group(1))) {
            MatchResult one = call.get(0);
            answers(line, books.get(one.group(1)), one.group(2), numbersOf(one.group(3)),
                    Long.parseLong(one.group(4)));
        } else {
            holds("an example: " + line, false);
        }
    }

    private static long[] numbersOf(String arguments) {
        return all("-?\\d+", arguments).stream().mapToLong(one -> Long.parseLong(one.group())).toArray();
    }

    private void answers(String line, UncrossedBook book, String name, long[] numbers, long due)
            throws ReflectiveOperationException {
        for (Method method : UncrossedBook.class.getDeclaredMethods()) {
            Class<?>[] types = method.getParameterTypes();
            if (Modifier.isPublic(method.getModifiers()) && method.getName().equals(name)
                    && types.length == numbers.length) {
                Object[] arguments = new Object[numbers.length];
                for (int i = 0; i < numbers.length; i++) {
                    arguments[i] = types[i] == int.class ? (Object) Math.toIntExact(numbers[i]) : (Object) numbers[i];
                }
                called.add(name);
                Due.is(line, ((Number) method.invoke(book, arguments)).longValue(), due);
                return;
            }
        }
        holds("there is such a call: " + line, false);
    }

    // ---- tables

    private void calls() {
        Map<String, String> face = new LinkedHashMap<>();
        for (MatchResult promise : all("(?m)^`(?:int|long) (\\w+)\\(([^)]*)\\)`: (.*)$", document)) {
            String names = promise.group(2).replaceAll("(?:int|long) ", "");
            face.put("`" + promise.group(1) + "(" + names + ")`", refusedBy(promise.group(3)));
        }
        Due.is("calls of the document", face.size(), 35);
        List<String[]> rows = table("| call | what it does, and answers | refused |");
        rows.addAll(table("| call | what it answers | refused |"));
        for (String[] row : rows) {
            Due.is("cells of " + row[0], row.length, 3);
            String refused = face.remove(row[0]);
            holds(row[0] + " is refused by " + refused + ", README.md has " + row[row.length - 1],
                    row[row.length - 1].equals(refused));
        }
        holds("calls that README.md doesn't tell: " + face.keySet(), face.isEmpty());
    }

    /** The numbers that a promise names as its refusals, as README.md writes them. */
    private static String refusedBy(String promise) {
        String told = promise.replaceAll("counted as[^)]*", "").replace("REFUSALS -1 to -7", "");
        String numbers = all("-\\d+", told).stream().map(MatchResult::group).collect(Collectors.joining(", "));
        return numbers.isEmpty() ? "none" : numbers;
    }

    private void refusals() {
        String told = document.substring(document.indexOf("REFUSALS (the call"), document.indexOf("## Promise 1:"));
        List<String> due = new ArrayList<>();
        all("(-\\d) ([A-Z]+):", told).forEach(one -> due.add(one.group(1) + " " + one.group(2)));
        List<String> rows = new ArrayList<>();
        table("| number | name | why |").forEach(row -> rows.add(row[0] + " " + row[1]));
        Due.is("refusals of the document", due.size(), 7);
        holds("refusals " + rows, rows.equals(due));
    }

    private void numbers() {
        int ranges = 0;
        for (String[] row : table("| number | what it may be |")) {
            for (MatchResult named : all("\\d [A-Z]{2,}", row[1])) {
                holds(named.group() + " stands in the document", document.contains(named.group()));
            }
            List<MatchResult> range = all("^(\\d+) to (\\d+)", row[1]);
            if (!range.isEmpty()) {
                ranges++;
                isJust(row[0], Integer.parseInt(range.get(0).group(1)), Integer.parseInt(range.get(0).group(2)));
            }
        }
        Due.is("numbers that have a range", ranges, 6);
        Due.is("NONE", UncrossedBook.NONE, -1);
    }

    private static void isJust(String name, int least, int most) {
        holds(name + " " + (least - 1), comesWith(name, least - 1) < 0);
        holds(name + " " + least, comesWith(name, least) == 0);
        holds(name + " " + most, comesWith(name, most) == 0);
        holds(name + " " + (most + 1), comesWith(name, most + 1) < 0);
    }

    /** What a new book answers to an order that has v as the number of that name. */
    private static int comesWith(String name, int v) {
        UncrossedBook x = new UncrossedBook();
        switch (name) {
            case "`owner`":
                return x.limit(v, 0, 1, 1, 0);
            case "`quantity`":
                return x.limit(0, 0, v, 1, 0);
            case "`price`":
                return x.limit(0, 0, 1, v, 0);
            case "`show`":
                return x.hidden(0, 0, 1, 1, v);
            case "`trigger`":
                return x.halt(0, 0, 1, v);
            case "`offset`":
                return x.pegged(0, 0, 1, v);
            default:
                return UncrossedBook.NONE;
        }
    }

    // ---- tests and commands

    private void tests() throws IOException {
        Set<String> told = new TreeSet<>();
        for (String[] row : table("| test | what it tests |")) {
            all("`(\\w+)`", row[0]).forEach(name -> told.add(name.group(1) + ".java"));
        }
        Set<String> there = new TreeSet<>();
        try (Stream<Path> files = Files.list(TESTS)) {
            files.map(file -> file.getFileName().toString()).filter(name -> name.endsWith("Test.java"))
                    .forEach(there::add);
        }
        holds("tests " + told + ", there are " + there, told.equals(there));
    }

    private void paths() {
        for (MatchResult path : all("`([\\w.]*/[\\w./]+)`", page)) {
            holds("there is " + path.group(1), Files.exists(Path.of(path.group(1))));
        }
    }

    /** All but .ci/run, which runs this test. */
    private void commands() throws IOException, InterruptedException {
        StringBuilder printed = new StringBuilder();
        for (String command : lines("sh")) {
            if (command.equals(".ci/run")) {
                holds(command + " can be run", Files.isExecutable(Path.of(command)));
            } else {
                printed.append(outputOf(command));
            }
        }
        List<MatchResult> names = all("(?m)^ {4}(Promise .*)$", page);
        Due.is("names of edges that README.md shows", names.size(), 1);
        names.forEach(name -> holds("listed: " + name.group(1),
                printed.toString().lines().anyMatch(name.group(1)::equals)));
    }

    private static String outputOf(String command) throws IOException, InterruptedException {
        Process process = new ProcessBuilder("sh", "-c", command).redirectErrorStream(true).start();
        String output = new String(process.getInputStream().readAllBytes());
        Due.is(command, process.waitFor(), 0);
        return output;
    }
}
