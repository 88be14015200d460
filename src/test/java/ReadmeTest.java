import java.io.IOException;
import java.lang.reflect.Method;
import java.nio.file.Files;
import java.nio.file.Path;
import java.util.regex.Matcher;
import java.util.regex.Pattern;

/** README.md: its example answers what it says, and each test stands in its table. It is run from the project's folder. */
public final class ReadmeTest {
    private static final Pattern TEXT = Pattern.compile("\"([^\"]*)\"");
    private static final Pattern ROW = Pattern.compile("wash\\.(\\w+)\\(([^()]*)\\); +// (?:CourtWash\\.)?(-?\\w+)");
    private static final Check CHECK = new Check("ReadmeTest");

    public static void main(String[] args) throws IOException, ReflectiveOperationException {
        String readme = Files.readString(Path.of("README.md"));
        int from = readme.indexOf("```java");
        CHECK.that("there is an example", from >= 0);
        String example = from < 0 ? "" : readme.substring(from, readme.indexOf("```", from + 3));
        exampleAnswersAsTold(example);
        CHECK.that("it says how to run the tests", readme.contains(".ci/run"));
        testsAreTold(readme);
        CHECK.end();
    }

    private static void exampleAnswersAsTold(String example) throws ReflectiveOperationException {
        StringBuilder text = new StringBuilder();
        Matcher part = TEXT.matcher(example);
        while (part.find()) {
            text.append(part.group(1));
        }
        CourtWash wash = new CourtWash();
        Texts.feed(wash, text.toString());
        int rows = 0;
        Matcher row = ROW.matcher(example);
        while (row.find()) {
            rows++;
            CHECK.due(row.group(1) + "(" + row.group(2) + ")", answer(wash, row.group(1), row.group(2)), told(row.group(3)));
        }
        CHECK.that("the example has calls", rows >= 5);
    }

    private static int answer(CourtWash wash, String name, String numbers) throws ReflectiveOperationException {
        String[] parts = numbers.isEmpty() ? new String[0] : numbers.split(", ");
        Class<?>[] types = new Class<?>[parts.length];
        Object[] values = new Object[parts.length];
        for (int i = 0; i < parts.length; i++) {
            types[i] = int.class;
            values[i] = Integer.valueOf(parts[i]);
        }
        Method method = CourtWash.class.getMethod(name, types);
        return (Integer) method.invoke(wash, values);
    }

    private static int told(String answer) throws ReflectiveOperationException {
        return answer.matches("-?\\d+") ? Integer.parseInt(answer) : CourtWash.class.getField(answer).getInt(null);
    }

    private static void testsAreTold(String readme) throws IOException {
        try (var files = Files.list(Path.of("src/test/java"))) {
            files.map(f -> f.getFileName().toString()).filter(f -> f.endsWith("Test.java")).sorted().forEach(f ->
                    CHECK.that(f + " is told", readme.contains("`" + f.replace(".java", "") + "`")));
        }
    }
}
