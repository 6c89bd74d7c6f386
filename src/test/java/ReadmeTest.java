import java.io.IOException;
import java.lang.reflect.InvocationTargetException;
import java.lang.reflect.Method;
import java.lang.reflect.Modifier;
import java.nio.file.Files;
import java.nio.file.Path;
import java.util.List;
import java.util.regex.Matcher;
import java.util.regex.Pattern;
import java.util.stream.Collectors;
import java.util.stream.Stream;

/** README.md: its runs answer as it tells, and it names every call of the face and every test. */
public final class ReadmeTest {
    private static final Pattern BLOCK = Pattern.compile("(?s)```java\n(.*?)```");
    private static final Pattern CALL = Pattern.compile("x\\.(\\w+)\\((.*?)\\); +// (-?\\d+|true|false)\\b.*");

    public static void main(String[] args) throws IOException, ReflectiveOperationException {
        String readme = Files.readString(Path.of("README.md"));
        Matcher blocks = BLOCK.matcher(readme);
        int runs = 0;
        while (blocks.find()) {
            runs++;
            oneRun(blocks.group(1).lines().toList());
        }
        Check.due("runs in README.md", runs, 2);
        everyCall(readme);
        everyTest(readme);
        Check.finish();
    }

    private static void oneRun(List<String> lines) throws ReflectiveOperationException {
        Check.due("the first line", lines.get(0), "ChipBurner x = new ChipBurner();");
        ChipBurner x = new ChipBurner();
        for (String line : lines.subList(1, lines.size())) {
            Matcher call = CALL.matcher(line);
            boolean told = call.matches();
            Check.due("'" + line + "' is a call with its answer", told, true);
            if (told) {
                Check.due(line, answer(x, call.group(1), call.group(2)) + "\n", call.group(3) + "\n");
            }
        }
    }

    private static String answer(ChipBurner x, String name, String given) throws ReflectiveOperationException {
        for (Method m : ChipBurner.class.getDeclaredMethods()) {
            if (Modifier.isPublic(m.getModifiers()) && m.getName().equals(name)) {
                String[] texts = given.split(", *");
                Object[] values = new Object[texts.length];
                for (int i = 0; i < texts.length; i++) {
                    values[i] = texts[i].matches("true|false") ? (Object) Boolean.valueOf(texts[i]) : Integer.decode(texts[i]);
                }
                return thrownOrAnswered(x, m, values);
            }
        }
        return "no such call";
    }

    private static String thrownOrAnswered(ChipBurner x, Method m, Object[] values) throws ReflectiveOperationException {
        try {
            return String.valueOf(m.invoke(x, values));
        } catch (InvocationTargetException e) {
            return "thrown: " + e.getCause();
        }
    }

    /** A row of the table for each method, with as many arguments as it takes. */
    private static void everyCall(String readme) {
        for (Method m : ChipBurner.class.getDeclaredMethods()) {
            if (Modifier.isPublic(m.getModifiers())) {
                Matcher row = Pattern.compile("(?m)^\\| `" + m.getName() + "\\((.*?)\\)` \\| \\d+ \\|").matcher(readme);
                boolean found = row.find();
                Check.due(m + " has a row in README.md", found, true);
                if (found) {
                    Check.due(m + ": its arguments", row.group(1).split(",").length, m.getParameterCount());
                }
            }
        }
    }

    private static void everyTest(String readme) throws IOException {
        try (Stream<Path> files = Files.list(Path.of("src/test/java"))) {
            for (Path file : files.collect(Collectors.toList())) {
                String name = file.getFileName().toString();
                boolean test = name.endsWith("Test.java");
                Check.due(name + " is named in README.md", readme.contains("`" + (test ? name.replace(".java", "") : name) + "`"), true);
            }
        }
    }
}
