import java.lang.reflect.Method;
import java.lang.reflect.Modifier;
import java.nio.file.Files;
import java.nio.file.Path;
import java.util.HashMap;
import java.util.List;
import java.util.Map;
import java.util.regex.Matcher;
import java.util.regex.Pattern;
import java.util.stream.Stream;

/** Is README.md true: its example, its table of calls, its list of tests? */
public final class ReadmeTest {
    private static final Pattern EXAMPLE = Pattern.compile("(?s)```java\n(.*?)```");
    private static final Pattern FED = Pattern.compile("for \\(.*\"(.*)\".*\\) x\\.feed\\(sign\\);");
    private static final Pattern ASKED = Pattern.compile("x\\.(\\w+)\\(([-\\d, ]*)\\); +// (-?\\d+): .+");
    private static final Pattern PROMISE = Pattern.compile("(?m)^## Promise (\\d+): (.+)$");

    private static final Checks checks = new Checks("ReadmeTest");
    private static final Map<String, Method> calls = new HashMap<>();

    public static void main(String[] args) throws Exception {
        for (Method method : TreeToTree.class.getDeclaredMethods()) {
            if (Modifier.isPublic(method.getModifiers())) calls.put(method.getName(), method);
        }
        String readme = Files.readString(Path.of("README.md"));
        example(readme);
        table(readme);
        tests(readme);
        checks.end();
    }

    private static void example(String readme) throws Exception {
        Matcher example = EXAMPLE.matcher(readme);
        checks.holds("there is an example", example.find());
        String[] lines = example.group(1).split("\n");
        checks.holds("it makes an object first", lines[0].equals("TreeToTree x = new TreeToTree();"));
        TreeToTree x = new TreeToTree();
        for (int i = 1; i < lines.length; i++) line(x, lines[i]);
    }

    private static void line(TreeToTree x, String line) throws Exception {
        Matcher fed = FED.matcher(line);
        if (fed.matches()) {
            Checks.feed(x, fed.group(1));
            return;
        }
        Matcher asked = ASKED.matcher(line);
        checks.holds(line + " is a call and its answer", asked.matches());
        if (!asked.matches()) return;
        Method call = calls.get(asked.group(1));
        String[] numbers = parts(asked.group(2));
        checks.holds(line + " is of the class", call != null && call.getParameterCount() == numbers.length);
        if (call == null || call.getParameterCount() != numbers.length) return;
        Object[] given = new Object[numbers.length];
        for (int i = 0; i < given.length; i++) given[i] = Integer.valueOf(numbers[i]);
        checks.due(line, ((Number) call.invoke(x, given)).longValue(), Long.parseLong(asked.group(3)));
    }

    /** Each promise of the document has its row, with as many parameters as the call has. */
    private static void table(String readme) throws Exception {
        String document = Files.readString(Path.of("../shared/DOC.md"));
        Matcher promise = PROMISE.matcher(document);
        int rows = 0;
        while (promise.find()) {
            rows++;
            String name = promise.group(2).equals("A new object") ? "TreeToTree" : promise.group(2);
            int want = calls.containsKey(name) ? calls.get(name).getParameterCount() : 0;
            Matcher row = Pattern.compile("(?m)^\\| " + promise.group(1) + " \\| `" + name + "\\((.*)\\)` \\| .+ \\|$")
                .matcher(readme);
            boolean found = row.find();
            checks.holds("a row for promise " + promise.group(1), found);
            if (found) checks.due("parameters in the row of " + name, parts(row.group(1)).length, want);
        }
        checks.due("rows of calls", rows, calls.size() + 1);
    }

    private static void tests(String readme) throws Exception {
        List<String> names;
        try (Stream<Path> files = Files.list(Path.of("src/test/java"))) {
            names = files.map(file -> file.getFileName().toString()).sorted().toList();
        }
        for (String name : names) {
            if (!name.endsWith("Test.java")) continue;
            String test = name.substring(0, name.length() - 5);
            checks.holds(test + " is told", readme.contains("- `" + test + "` "));
        }
        Matcher told = Pattern.compile("`(\\w+Test)`").matcher(readme);
        while (told.find()) checks.holds(told.group(1) + " is there", names.contains(told.group(1) + ".java"));
        checks.holds(".ci/run is told", readme.contains("\n.ci/run\n"));
    }

    private static String[] parts(String between) {
        return between.isBlank() ? new String[0] : between.trim().split(", *");
    }
}
