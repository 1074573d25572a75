import java.io.File;
import java.lang.reflect.Field;
import java.lang.reflect.Method;
import java.lang.reflect.Modifier;
import java.nio.file.Files;
import java.nio.file.Path;
import java.util.HashMap;
import java.util.Map;
import java.util.regex.Matcher;
import java.util.regex.Pattern;

/** README.md says how to use the class and how to run its tests: what it says must stay true. */
public final class ReadmeTest {
    private static final Pattern ROW = Pattern.compile("(?:int (\\w+) = )?x\\.(\\w+)\\(([^)]*)\\); +// (-?\\d+): .+");
    private static final String FIRST_ROW = "DollGarlands x = new DollGarlands();";

    private final DollGarlands x = new DollGarlands();
    private final Map<String, Integer> variables = new HashMap<>();

    private ReadmeTest() {
    }

    public static void main(String[] args) throws Exception {
        String page = Files.readString(Path.of("README.md"));
        new ReadmeTest().example(page);
        calls(page);
        constants(page);
        tests(page);
        Check.finish();
    }

    /** Runs the rows of the example, each with the answer that its comment tells. */
    private void example(String page) throws Exception {
        String start = "```java\n" + FIRST_ROW + "\n";
        int from = page.indexOf(start);
        int to = page.indexOf("```", from + start.length());
        Check.holds("README.md has an example", from >= 0 && to > from);
        if (from < 0 || to < from) {
            return;
        }
        for (String row : page.substring(from + start.length(), to).split("\n")) {
            Matcher parts = ROW.matcher(row);
            Check.holds("README.md, a row that can be run: " + row, parts.matches());
            if (parts.matches()) {
                int answer = called(parts.group(2), parts.group(3));
                Check.due("README.md, " + row, answer, Integer.parseInt(parts.group(4)));
                if (parts.group(1) != null) {
                    variables.put(parts.group(1), answer);
                }
            }
        }
    }

    private int called(String name, String arguments) throws Exception {
        String[] words = arguments.isEmpty() ? new String[0] : arguments.split(", ");
        Object[] values = new Object[words.length];
        for (int i = 0; i < words.length; i++) {
            values[i] = value(words[i]);
        }
        for (Method method : DollGarlands.class.getMethods()) {
            if (method.getName().equals(name) && method.getParameterCount() == values.length) {
                return (Integer) method.invoke(x, values);
            }
        }
        throw new IllegalStateException("no method " + name + " of " + values.length + " arguments");
    }

    private Object value(String word) {
        if (word.startsWith("'")) {
            return word.charAt(1);
        }
        if (word.equals("true") || word.equals("false")) {
            return Boolean.valueOf(word);
        }
        Integer variable = variables.get(word);
        return variable != null ? variable : Integer.valueOf(word);
    }

    private static void calls(String page) {
        for (Method method : DollGarlands.class.getDeclaredMethods()) {
            if (Modifier.isPublic(method.getModifiers())) {
                Check.holds("README.md names " + method.getName(), page.contains("`" + method.getName() + "`"));
            }
        }
    }

    private static void constants(String page) throws Exception {
        for (Field field : DollGarlands.class.getDeclaredFields()) {
            if (Modifier.isPublic(field.getModifiers())) {
                String row = "| `" + field.getName() + "` (" + field.getInt(null) + ") |";
                Check.holds("README.md has the row " + row, page.contains(row));
            }
        }
    }

    private static void tests(String page) {
        String[] names = new File("src/test/java").list();
        Check.holds("there are tests", names != null && names.length > 0);
        for (String name : names == null ? new String[0] : names) {
            if (name.endsWith("Test.java")) {
                String row = "| `" + name.replace(".java", "") + "` |";
                Check.holds("README.md has the row " + row, page.contains(row));
            }
        }
        Matcher row = Pattern.compile("\\| `(\\w+Test)` \\|").matcher(page);
        while (row.find()) {
            Check.holds("there is a test " + row.group(1), new File("src/test/java/" + row.group(1) + ".java").exists());
        }
        Check.holds("README.md says what runs the tests", page.contains("`.ci/run`") && new File(".ci/run").canExecute());
    }
}
