import java.io.ByteArrayOutputStream;
import java.io.IOException;
import java.io.PrintStream;
import java.lang.reflect.Method;
import java.lang.reflect.Modifier;
import java.nio.file.Files;
import java.nio.file.Path;
import java.util.ArrayList;
import java.util.List;
import java.util.Set;
import java.util.TreeSet;
import java.util.regex.Matcher;
import java.util.regex.Pattern;

/** README.md tells of every call and its exceptions, and shows a program that runs. It runs from the project's root. */
final class ReadmeTest {
    private static final Path README = Path.of("README.md");
    private static final Path EXAMPLE = Path.of("src/test/java/Example.java");
    /** A row of a table that begins with a call: its name, its parameters, what it answers, its exceptions. */
    private static final Pattern ROW = Pattern.compile("\\| `(\\w+)\\((.*?)\\)` \\| ([^|]+) \\| ([^|]*)\\|");
    private static final Pattern EXCEPTION = Pattern.compile("(\\w+): ");

    private ReadmeTest() {
    }

    static void run() throws IOException {
        String readme = Files.readString(README);
        calls(readme);
        example(readme);
    }

    private static void calls(String readme) {
        Set<String> told = new TreeSet<>();
        readme.lines().map(ROW::matcher).filter(Matcher::matches).forEach(row -> told.add(told(row)));
        Set<String> due = new TreeSet<>();
        for (Method method : RegattaOffice.class.getDeclaredMethods()) {
            if (Modifier.isPublic(method.getModifiers())) {
                due.add(due(method));
            }
        }
        Check.equal("the calls in README.md", String.join("\n", told), String.join("\n", due));
        Check.equal("the constructor in README.md", readme.contains("| `new RegattaOffice()` | "), true);
        Check.equal("NONE in README.md", readme.contains("`RegattaOffice.NONE` is " + RegattaOffice.NONE), true);
    }

    private static String told(Matcher row) {
        List<String> exceptions = new ArrayList<>();
        Matcher exception = EXCEPTION.matcher(row.group(4));
        while (exception.find()) {
            exceptions.add(exception.group(1) + "Exception");
        }
        int parameters = row.group(2).isEmpty() ? 0 : row.group(2).split(", ").length;
        return row.group(1) + " of " + parameters + " throws " + exceptions;
    }

    private static String due(Method method) {
        List<String> exceptions = new ArrayList<>();
        for (Class<?> exception : method.getExceptionTypes()) {
            exceptions.add(exception.getSimpleName());
        }
        return method.getName() + " of " + method.getParameterCount() + " throws " + exceptions;
    }

    private static void example(String readme) throws IOException {
        String source = Files.readString(EXAMPLE);
        Check.equal("README.md shows Example", readme.contains("```java\n" + source + "```\n"), true);
        Check.equal("README.md shows what it prints", readme.contains("```text\n" + printed() + "```\n"), true);
    }

    private static String printed() {
        ByteArrayOutputStream bytes = new ByteArrayOutputStream();
        PrintStream before = System.out;
        System.setOut(new PrintStream(bytes, true));
        try {
            Example.main(new String[0]);
        } finally {
            System.setOut(before);
        }
        return bytes.toString().replace(System.lineSeparator(), "\n");
    }
}
