import java.io.File;
import java.lang.reflect.Method;
import java.lang.reflect.Modifier;
import java.nio.file.Files;
import java.nio.file.Path;
import java.util.ArrayList;
import java.util.List;
import java.util.Map;
import java.util.Set;
import java.util.TreeMap;
import java.util.TreeSet;
import java.util.regex.Matcher;
import java.util.regex.Pattern;

/** README.md against the class as it stands: its example, its calls, its refusals, its list of tests; run in the project's folder. */
public final class ReadmeTest {
    private static final Pattern REFUSAL = Pattern.compile("\\b(UNKNOWN|OUTSIDE|NOT|FULL|NULL|INDEX|SIZE)\\b");
    private static final Path DOCUMENT = Path.of("../shared/DOC.md");

    public static void main(String[] args) throws Exception {
        String readme = Files.readString(Path.of("README.md"));
        example(readme);
        newObject();
        calls(readme);
        refusedBy(readme);
        refusals(readme);
        tests(readme);
        Due.end();
    }

    private static void same(String what, Object found, Object due) {
        Due.is(what + " " + found + ", due is " + due + ": alike", found.toString().equals(due.toString()) ? 1 : 0, 1);
    }

    private static Method method(String name, int numbers) {
        for (Method m : AlbumHours.class.getDeclaredMethods()) {
            if (Modifier.isPublic(m.getModifiers()) && m.getName().equals(name) && m.getParameterCount() == numbers) return m;
        }
        return null;
    }

    /** Each row of the example answers the number that stands behind it. */
    private static void example(String readme) throws Exception {
        Matcher text = Pattern.compile("String text = \"([^\"]*)\";").matcher(readme);
        Due.is("the example has a text", text.find() ? 1 : 0, 1);
        AlbumHours album = new AlbumHours();
        Due.write(album, text.group(1));
        Matcher row = Pattern.compile("\\nalbum\\.(\\w+)\\(([-\\d, ]*)\\); *// (-?\\d+)").matcher(readme);
        int rows = 0;
        for (; row.find(); rows++) {
            String[] written = row.group(2).isEmpty() ? new String[0] : row.group(2).split(", ");
            Object[] numbers = new Object[written.length];
            for (int i = 0; i < numbers.length; i++) numbers[i] = Integer.parseInt(written[i]);
            Object answered = method(row.group(1), numbers.length).invoke(album, numbers);
            Due.is("the example's " + row.group(1) + "(" + row.group(2) + ")", ((Number) answered).longValue(), Long.parseLong(row.group(3)));
        }
        Due.is("the example's rows are read, all of them", rows, readme.split("\nalbum\\.").length - 1);
    }

    /** What the page tells of a new object. */
    private static void newObject() {
        AlbumHours x = new AlbumHours();
        Due.row("a new object", "0 0 0 24 4 5 0 0 0", x.count(0), x.count(1), x.count(2), x.count(4), x.count(5), x.count(6), x.count(7), x.count(9), x.latest());
        Due.row("its strips", "-11 -11 -11", x.sum(0), x.sum(1), x.sum(2));
    }

    /** The rows of the calls: the call as it is written, and what it is refused by. */
    private static Map<String, String> rows(String readme) {
        Map<String, String> rows = new TreeMap<>();
        Matcher row = Pattern.compile("\\n\\| `(\\w+\\([\\w, ]*\\))` \\|[^|]*\\|([^|]*)\\|").matcher(readme);
        while (row.find()) rows.put(row.group(1), row.group(2));
        return rows;
    }

    /** Every call of the class has its row, with as many numbers as it takes, and none else has one. */
    private static void calls(String readme) {
        Set<String> due = new TreeSet<>();
        for (Method m : AlbumHours.class.getDeclaredMethods()) {
            if (Modifier.isPublic(m.getModifiers())) due.add(m.getName() + " " + m.getParameterCount());
        }
        Set<String> found = new TreeSet<>();
        for (String call : rows(readme).keySet()) {
            String numbers = call.substring(call.indexOf('(') + 1, call.length() - 1);
            found.add(call.substring(0, call.indexOf('(')) + " " + (numbers.isEmpty() ? 0 : numbers.split(",").length));
        }
        same("the calls", found, due);
    }

    private static Set<String> refusalsIn(String text) {
        Set<String> found = new TreeSet<>();
        Matcher m = REFUSAL.matcher(text);
        while (m.find()) found.add(m.group());
        return found;
    }

    /** What a call is refused by is what the document's promise names. */
    private static void refusedBy(String readme) throws Exception {
        if (!Files.exists(DOCUMENT)) {
            System.out.println(DOCUMENT + " is not here: what calls are refused by is not looked at");
            return;
        }
        String document = Files.readString(DOCUMENT);
        for (Map.Entry<String, String> row : rows(readme).entrySet()) {
            String name = row.getKey().substring(0, row.getKey().indexOf('('));
            Matcher promise = Pattern.compile("\\n## Promise \\d+: " + name + "\\n(.*?)\\n## ", Pattern.DOTALL).matcher(document);
            Due.is("the promise of " + name + " is found", promise.find() ? 1 : 0, 1);
            same(name + " is refused by", refusalsIn(row.getValue()), refusalsIn(promise.group(1)));
        }
    }

    /** The refusals with their numbers, in the order in which the first that fits is answered. */
    private static void refusals(String readme) throws Exception {
        List<String> found = new ArrayList<>();
        Matcher row = Pattern.compile("\\n\\| `([A-Z]+)` \\| (-\\d+) \\|").matcher(readme);
        while (row.find()) {
            found.add(row.group(1));
            Due.is("the number of " + row.group(1), Integer.parseInt(row.group(2)), AlbumHours.class.getField(row.group(1)).getInt(null));
        }
        same("the refusals in their order", found, List.of("UNKNOWN", "OUTSIDE", "NOT", "FULL", "NULL", "INDEX", "SIZE"));
        Due.is("NONE is told with its number", readme.contains("`NONE` (" + AlbumHours.NONE + ")") ? 1 : 0, 1);
    }

    /** The list of tests names those that .ci/run runs. */
    private static void tests(String readme) {
        Set<String> due = new TreeSet<>();
        for (String file : new File("src/test/java").list()) if (file.endsWith("Test.java")) due.add(file.replace(".java", ""));
        Set<String> found = new TreeSet<>();
        Matcher row = Pattern.compile("\\n\\| `(\\w+Test)` \\|").matcher(readme);
        while (row.find()) found.add(row.group(1));
        same("the tests", found, due);
    }
}
