import java.io.IOException;
import java.lang.reflect.Method;
import java.nio.file.Files;
import java.nio.file.Path;
import java.util.List;
import java.util.regex.Matcher;
import java.util.regex.Pattern;

/** README.md: its example answers as the class does, its tables name each call, and it names each test. */
public final class ReadmeTest {

    private static final Pattern ROW = Pattern.compile("x\\.(\\w+)\\((-?\\d+(?:, -?\\d+)*)\\); *// (-?\\d+|true|false)(?::.*)?");
    private static final String FIRST = "SharerHome x = new SharerHome();";

    private static final Check CHECK = new Check("ReadmeTest");

    public static void main(String[] args) throws IOException, ReflectiveOperationException {
        List<String> rows = Files.readAllLines(Path.of("README.md"));
        playsExample(rows);
        namesEachCall(String.join("\n", rows));
        namesEachTest(String.join("\n", rows));
        CHECK.end();
    }

    private static void playsExample(List<String> rows) throws ReflectiveOperationException {
        int first = rows.indexOf("```java") + 1;
        int last = first;
        while (last < rows.size() && !rows.get(last).equals("```")) {
            last++;
        }
        CHECK.due("the example has rows", last - first > 10, true);
        CHECK.due("the example begins with a new object", rows.get(first).equals(FIRST), true);
        SharerHome x = new SharerHome();
        for (String row : rows.subList(first + 1, last)) {
            plays(x, row);
        }
    }

    private static void plays(SharerHome x, String row) throws ReflectiveOperationException {
        Matcher matcher = ROW.matcher(row);
        if (!matcher.matches()) {
            CHECK.fault("a row of the example is no call with its answer: " + row);
            return;
        }
        String[] texts = matcher.group(2).split(", ");
        Class<?>[] types = new Class<?>[texts.length];
        Object[] numbers = new Object[texts.length];
        for (int i = 0; i < texts.length; i++) {
            types[i] = int.class;
            numbers[i] = Integer.valueOf(texts[i]);
        }
        Object answer = SharerHome.class.getMethod(matcher.group(1), types).invoke(x, numbers);
        CHECK.due(row + " is what the class answers, " + answer, answer.toString().equals(matcher.group(3)), true);
    }

    private static void namesEachCall(String text) {
        for (Method method : SharerHome.class.getMethods()) {
            if (method.getDeclaringClass() == SharerHome.class) {
                String begin = "\n| `" + method.getName() + "(";
                int at = text.indexOf(begin);
                CHECK.due("a table has " + method.getName(), at >= 0, true);
                if (at >= 0) {
                    String parameters = text.substring(at + begin.length(), text.indexOf(')', at));
                    CHECK.due("parameters of " + method.getName(), parameters.split(", ").length, method.getParameterCount());
                }
            }
        }
    }

    private static void namesEachTest(String text) throws IOException {
        try (var files = Files.list(Path.of("src/test/java"))) {
            files.map(file -> file.getFileName().toString().replace(".java", ""))
                    .forEach(name -> CHECK.due("README.md names " + name, text.contains("`" + name + "`"), true));
        }
    }
}
