import java.io.IOException;
import java.lang.reflect.Field;
import java.lang.reflect.InvocationTargetException;
import java.lang.reflect.Method;
import java.lang.reflect.Modifier;
import java.nio.file.Files;
import java.nio.file.Path;
import java.util.Arrays;
import java.util.List;
import java.util.regex.Matcher;
import java.util.regex.Pattern;
import java.util.stream.Stream;

/** README.md: its example answers as it says, its tables name all calls, answers, clauses and tests. */
final class ReadmeTest {
    private static final Due due = new Due("ReadmeTest");

    public static void main(String[] args) throws IOException, ReflectiveOperationException {
        String readme = Files.readString(Path.of("README.md"));
        theExample(readme);
        theClauses(readme);
        theNames(readme);
        theTests(readme);
        due.end();
    }

    private static Matcher find(String pattern, String text) {
        return Pattern.compile(pattern, Pattern.MULTILINE).matcher(text);
    }

    /** Each line of the example as "x.cell(0, 2);  // 161: ..". */
    private static void theExample(String readme) throws ReflectiveOperationException {
        Matcher block = find("(?s)```java\n(.*?)```", readme);
        Matcher text = find("String text = \"([^\"]*)\";", readme);
        due.isTrue("there is an example and its text", block.find() && text.find());
        WallHeat x = new WallHeat();
        Due.write(x, text.group(1));
        Matcher call = find("^x\\.(\\w+)\\(([^)]*)\\);\\s+// (-?\\d+): ", block.group(1));
        int calls = 0;
        for (; call.find(); calls++) due.is("the example's " + call.group(), answer(x, call.group(1), call.group(2)), Long.parseLong(call.group(3)));
        due.is("lines of calls", calls, block.group(1).lines().filter(line -> line.startsWith("x.")).count());
    }

    private static long answer(WallHeat x, String name, String arguments) throws ReflectiveOperationException {
        Object[] numbers = arguments.isEmpty() ? new Object[0] : Stream.of(arguments.split(", ")).map(Integer::valueOf).toArray();
        Class<?>[] types = new Class<?>[numbers.length];
        Arrays.fill(types, int.class);
        try {
            return ((Number) WallHeat.class.getMethod(name, types).invoke(x, numbers)).longValue();
        } catch (InvocationTargetException e) {
            throw new IllegalStateException(name + " threw", e);
        }
    }

    /** Each clause of the table stands in a text, with the least numbers that it may have. */
    private static void theClauses(String readme) {
        WallHeat x = Due.told("stuff w 1 1;layer w 1");
        String[] clauses = {"wall T", "stuff W K C", "layer W N", "air L R", "heat I H"};
        for (String clause : clauses) {
            due.isTrue("README has the clause " + clause, readme.contains("| `" + clause + "` |"));
            String told = clause.replace(clause.startsWith("stuff") ? "W" : "V", "v").replace("W", "w").replaceAll("[TKCNLRH]", "1").replace("I", "0");
            due.is("fault() of " + told, Due.fault(x, told), WallHeat.NONE);
        }
        due.is("clauses in README", find("^\\| `[a-z]+( [A-Z])+` \\|", readme).results().count(), clauses.length);
    }

    private static void theNames(String readme) {
        for (Method method : WallHeat.class.getDeclaredMethods()) {
            if (Modifier.isPublic(method.getModifiers())) due.isTrue("README names " + method.getName(), readme.contains("`" + method.getName() + "`"));
        }
        for (Field field : WallHeat.class.getFields()) due.isTrue("README names " + field.getName(), readme.contains("`" + field.getName() + "`"));
    }

    private static void theTests(String readme) throws IOException {
        List<String> tests;
        try (Stream<Path> files = Files.list(Path.of("src/test/java"))) {
            tests = files.map(file -> file.getFileName().toString().replace(".java", "")).filter(name -> name.endsWith("Test")).toList();
        }
        for (String test : tests) due.isTrue("README names " + test, readme.contains("\n| `" + test + "` |"));
        due.is("tests in README", find("^\\| `\\w+Test` \\|", readme).results().count(), tests.size());
    }
}
