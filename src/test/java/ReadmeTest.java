import java.io.IOException;
import java.lang.reflect.Method;
import java.lang.reflect.Modifier;
import java.nio.file.Files;
import java.nio.file.Path;
import java.util.List;
import java.util.regex.Matcher;
import java.util.regex.Pattern;
import java.util.stream.Stream;

/** README.md: the answers that stand behind the calls of its example, and a word on each call and each test. */
public final class ReadmeTest {
    private static final Pattern EXAMPLE = Pattern.compile("(?s)```java\n(.*?)```");
    private static final Pattern CALL = Pattern.compile("x\\.(\\w+)\\((.*?)\\);\\s+// (-?\\d+|BAD|NO|NONE)\\b.*");

    private static int wrong = 0;
    private static int checks = 0;

    private static void due(String what, Object got, Object want) {
        checks++;
        if (!got.equals(want)) {
            wrong++;
            System.out.println(what + ": " + got + ", due is " + want);
        }
    }

    private static Method methodNamed(String name) {
        return Stream.of(LatinLaws.class.getMethods()).filter(m -> m.getName().equals(name)).findFirst().orElseThrow();
    }

    private static Object[] arguments(String told) {
        return Stream.of(told.split(", ")).map(ReadmeTest::argument).toArray();
    }

    private static Object argument(String told) {
        return told.matches("true|false") ? (Object) Boolean.valueOf(told) : (Object) Integer.valueOf(told);
    }

    private static int answer(String told) {
        return switch (told) {
            case "BAD" -> LatinLaws.BAD;
            case "NO" -> LatinLaws.NO;
            case "NONE" -> LatinLaws.NONE;
            default -> Integer.parseInt(told);
        };
    }

    private static void checkExample(String readme) throws ReflectiveOperationException {
        Matcher example = EXAMPLE.matcher(readme);
        due("there is an example", example.find(), true);
        List<String> lines = example.group(1).lines().toList();
        due("it begins", lines.get(0).startsWith("LatinLaws x = new LatinLaws();"), true);
        LatinLaws x = new LatinLaws();
        for (String line : lines.subList(1, lines.size())) {
            Matcher call = CALL.matcher(line);
            due(line + " is a call with its answer", call.matches(), true);
            due(line, methodNamed(call.group(1)).invoke(x, arguments(call.group(2))), answer(call.group(3)));
        }
    }

    private static void checkNames(String readme) throws IOException {
        for (Method m : LatinLaws.class.getDeclaredMethods()) {
            if (Modifier.isPublic(m.getModifiers())) {
                Matcher row = Pattern.compile("`" + m.getName() + "\\(([\\w, ]*)\\)`").matcher(readme);
                due("a row for " + m.getName(), row.find(), true);
                due("what " + m.getName() + " takes", row.group(1).split(", ").length, m.getParameterCount());
            }
        }
        try (Stream<Path> tests = Files.list(Path.of("src/test/java"))) {
            for (Path test : tests.toList()) {
                String name = test.getFileName().toString().replace(".java", "");
                due("a line for " + name, readme.contains("- `" + name + "`: "), true);
            }
        }
    }

    public static void main(String[] args) throws IOException, ReflectiveOperationException {
        String readme = Files.readString(Path.of("README.md"));
        checkExample(readme);
        checkNames(readme);
        System.out.println(checks + " things told in README.md, " + wrong + " not as due");
        if (wrong != 0) {
            System.exit(1);
        }
    }
}
