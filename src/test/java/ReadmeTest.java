import java.io.IOException;
import java.lang.reflect.Field;
import java.lang.reflect.Method;
import java.lang.reflect.Modifier;
import java.nio.file.Files;
import java.nio.file.Path;
import java.util.TreeSet;
import java.util.regex.Matcher;
import java.util.regex.Pattern;
import java.util.stream.Stream;

/** README.md: its calls answer what it says, and it leaves out no call, no error and no test. */
public final class ReadmeTest {
    private static final Path README = Path.of("README.md");
    private static final Path DOCUMENT = Path.of("../shared/DOC.md");
    private static final Path TESTS = Path.of("src/test/java");
    private static final int EXAMPLES = 3;

    private static final Pattern MADE = Pattern.compile("SpellTables x = new SpellTables\\(\\);");
    private static final Pattern WRITTEN = Pattern.compile(
            "for \\(char c : \"([^\"]*)\"\\.toCharArray\\(\\)\\) x\\.letter\\(c\\);");
    private static final Pattern CALLED = Pattern.compile(
            "x\\.(\\w+)\\(([^)]*)\\); +// (-?\\d+)(: .*)?");
    private static final Pattern ANSWERED = Pattern.compile("(\\w+)\\(([^)]*)\\) = (-?\\d+)");
    private static final Pattern LISTED = Pattern.compile("(?m)^\\| `(\\w+)\\(([^)]*)\\)` \\|");

    private static int calls = 0;
    private static int wrong = 0;

    private static void say(String what) {
        wrong++;
        System.out.println(what);
    }

    private static Method method(String name) {
        for (Method method : SpellTables.class.getDeclaredMethods()) {
            if (Modifier.isPublic(method.getModifiers()) && method.getName().equals(name)) {
                return method;
            }
        }
        return null;
    }

    private static int size(String arguments) {
        return arguments.isBlank() ? 0 : arguments.split(",").length;
    }

    private static void call(SpellTables x, String name, String arguments, String due)
            throws ReflectiveOperationException {
        calls++;
        String written = name + "(" + arguments + ")";
        Method method = method(name);
        if (method == null || method.getParameterCount() != size(arguments)) {
            say("there is no call " + written);
            return;
        }
        Object[] values = new Object[size(arguments)];
        for (int place = 0; place < values.length; place++) {
            values[place] = Integer.parseInt(arguments.split(",")[place].trim());
        }
        long got = ((Number) method.invoke(x, values)).longValue();
        if (got != Long.parseLong(due)) {
            say(written + " answered " + got + ", the page says " + due);
        }
    }

    private static void program(String block) throws ReflectiveOperationException {
        SpellTables x = new SpellTables();
        for (String line : block.strip().split("\n")) {
            Matcher written = WRITTEN.matcher(line);
            Matcher called = CALLED.matcher(line);
            if (MADE.matcher(line).matches()) {
                x = new SpellTables();
            } else if (written.matches()) {
                for (char code : written.group(1).toCharArray()) x.letter(code);
            } else if (called.matches()) {
                call(x, called.group(1), called.group(2), called.group(3));
            } else {
                say("a line that cannot be run: " + line);
            }
        }
    }

    private static void programs(String page) throws ReflectiveOperationException {
        Matcher block = Pattern.compile("```java\n(.*?)```", Pattern.DOTALL).matcher(page);
        int found = 0;
        while (block.find()) {
            found++;
            program(block.group(1));
        }
        if (found == 0) say("there is no program in README.md");
    }

    private static void examples(String page, String document)
            throws ReflectiveOperationException {
        Matcher example = Pattern.compile("(?m)^\\d\\. .*(\n   .*)*").matcher(page);
        int found = 0;
        while (example.find()) {
            found++;
            String words = example.group().replaceAll("\\s+", " ");
            if (!words.startsWith(found + ". ")) say("not in its order: " + words);
            if (!document.isEmpty() && !document.contains(words)) {
                say("the document has no such example: " + words);
            }
            SpellTables x = new SpellTables();
            Matcher answered = ANSWERED.matcher(words);
            while (answered.find()) {
                call(x, answered.group(1), answered.group(2), answered.group(3));
            }
        }
        if (found != EXAMPLES) say(found + " examples instead of " + EXAMPLES);
    }

    private static void listedCalls(String page, String document) {
        TreeSet<String> missing = new TreeSet<>();
        for (Method method : SpellTables.class.getDeclaredMethods()) {
            if (Modifier.isPublic(method.getModifiers())) missing.add(method.getName());
        }
        Matcher listed = LISTED.matcher(page);
        while (listed.find()) {
            String name = listed.group(1);
            if (!missing.remove(name)) say("no call, or listed twice: " + name);
            String inFace = " " + name + "(" + listed.group(2).replaceAll("(\\w+)", "int $1") + ");";
            if (!document.isEmpty() && !document.contains(inFace)) {
                say("the document's face has no" + inFace);
            }
        }
        if (!missing.isEmpty()) say("README.md does not list " + missing);
    }

    private static void listedErrors(String page) throws IllegalAccessException {
        for (Field field : SpellTables.class.getDeclaredFields()) {
            if (!Modifier.isPublic(field.getModifiers())) continue;
            String row = "| `" + field.getName() + "` | " + field.getInt(null) + " |";
            if (!page.contains(row)) say("README.md has no row " + row);
        }
    }

    private static void listedTests(String page) throws IOException {
        try (Stream<Path> files = Files.list(TESTS)) {
            files.forEach(file -> {
                String name = file.getFileName().toString().replace(".java", "");
                if (!page.contains("\n| `" + name + "` |")) say("README.md does not list " + name);
            });
        }
        if (!page.contains(".ci/run")) say("README.md does not say how to run the tests");
    }

    public static void main(String[] args) throws IOException, ReflectiveOperationException {
        String page = Files.readString(README);
        String document = Files.exists(DOCUMENT)
                ? Files.readString(DOCUMENT).replaceAll("\\s+", " ") : "";
        programs(page);
        examples(page, document);
        listedCalls(page, document);
        listedErrors(page);
        listedTests(page);
        System.out.println(calls + " calls of README.md, " + wrong + " faults");
        if (wrong != 0) System.exit(1);
    }
}
