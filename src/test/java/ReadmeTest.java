import java.io.ByteArrayOutputStream;
import java.io.IOException;
import java.io.PrintStream;
import java.nio.charset.StandardCharsets;
import java.nio.file.Files;
import java.nio.file.Path;
import java.util.List;
import java.util.TreeSet;
import java.util.regex.Matcher;
import java.util.regex.Pattern;
import java.util.stream.Stream;

/** That README.md is true: its program is Example, which says what stands there; it names every call, class and test. */
public final class ReadmeTest {
    private static final Due DUE = new Due();

    public static void main(String[] args) throws IOException {
        DUE.part("README.md");
        String readme = Files.readString(Path.of("README.md"));
        example(readme);
        calls(readme);
        classes(readme);
        tests(readme);
        DUE.end("ReadmeTest");
    }

    private static void example(String readme) throws IOException {
        String program = Files.readString(Path.of("src/test/java/Example.java"));
        DUE.is("the program is Example", readme.contains("```java\n" + program + "```"), true);
        DUE.is("what it says stands behind it", readme.contains("```text\n" + saidByExample() + "```"), true);
    }

    private static String saidByExample() {
        PrintStream before = System.out;
        ByteArrayOutputStream said = new ByteArrayOutputStream();
        System.setOut(new PrintStream(said, true, StandardCharsets.UTF_8));
        try {
            Example.main(new String[0]);
        } finally {
            System.setOut(before);
        }
        return said.toString(StandardCharsets.UTF_8).replace(System.lineSeparator(), "\n");
    }

    /** Each call of the face stands at the head of one row, with as many arguments as it has. */
    private static void calls(String readme) {
        TreeSet<String> due = new TreeSet<>();
        for (var method : SecondTry.class.getDeclaredMethods()) {
            if (java.lang.reflect.Modifier.isPublic(method.getModifiers())) {
                due.add(method.getName() + "/" + method.getParameterCount());
            }
        }
        TreeSet<String> told = new TreeSet<>();
        Matcher row = Pattern.compile("(?m)^\\| `(\\w+)\\(([^)]*)\\)` \\|").matcher(readme);
        while (row.find()) {
            int arguments = row.group(2).isEmpty() ? 0 : row.group(2).split(",").length;
            DUE.is(row.group() + " stands once", told.add(row.group(1) + "/" + arguments), true);
        }
        DUE.is("calls that are told " + told, told.equals(due), true);
    }

    private static void classes(String readme) {
        for (Class<?> c : SecondTry.class.getDeclaredClasses()) {
            DUE.is("class " + c.getSimpleName(), readme.contains("`" + c.getSimpleName() + "`"), true);
        }
    }

    private static void tests(String readme) throws IOException {
        List<Path> files;
        try (Stream<Path> all = Files.list(Path.of("src/test/java"))) {
            files = all.toList();
        }
        for (Path file : files) {
            String name = file.getFileName().toString().replace(".java", "");
            DUE.is("test " + name, readme.contains("`" + name + "`"), true);
        }
    }
}
