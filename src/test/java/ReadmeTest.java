import java.io.IOException;
import java.lang.reflect.Field;
import java.lang.reflect.Method;
import java.lang.reflect.Modifier;
import java.nio.file.Files;
import java.nio.file.Path;
import java.util.regex.Matcher;
import java.util.regex.Pattern;
import java.util.stream.Stream;

/** README.md: its example answers as it says, and no call, code or test is left out. */
public final class ReadmeTest {
    private static final Pattern EXAMPLE = Pattern.compile("(?s)```java\n(.*?)```");
    private static final Pattern TEXT = Pattern.compile("\"(.*)\"\\.toCharArray");
    private static final Pattern CALL =
            Pattern.compile("s\\.(\\w+\\([-0-9, ]*\\));\\s*// (-?\\d+)\\b.*");

    private final Due due = new Due("readme");
    private final String page;

    private ReadmeTest(String page) {
        this.page = page;
    }

    public static void main(String[] args) throws IOException {
        ReadmeTest test = new ReadmeTest(Files.readString(Path.of("README.md")));
        test.example();
        test.calls();
        test.codes();
        test.tests();
        test.due.end();
    }

    private void example() {
        Matcher block = EXAMPLE.matcher(page);
        due.holds("there is an example", block.find());
        SpanSpotter s = new SpanSpotter();
        int made = 0;
        for (String line : block.group(1).split("\n")) {
            Matcher text = TEXT.matcher(line);
            if (text.find()) {
                Due.types(s, text.group(1));
            }
            Matcher call = CALL.matcher(line);
            if (call.matches()) {
                due.is(call.group(1), Due.call(s, call.group(1)), Long.parseLong(call.group(2)));
                made++;
            } else {
                due.holds("a call with its answer: " + line,
                        !line.startsWith("s.") && !line.contains("//"));
            }
        }
        due.holds("the example has calls", made > 5);
    }

    private void calls() {
        String table = page.substring(page.indexOf("## The calls"), page.indexOf("### Texts"));
        for (Method method : SpanSpotter.class.getDeclaredMethods()) {
            if (Modifier.isPublic(method.getModifiers())) {
                Matcher named = Pattern.compile("`" + method.getName() + "\\(([^)]*)\\)`")
                        .matcher(table);
                boolean found = named.find();
                due.holds("the page tells of " + method.getName(), found);
                int told = !found || named.group(1).isEmpty() ? 0
                        : named.group(1).split(",").length;
                due.is("arguments of " + method.getName(), told, method.getParameterCount());
            }
        }
    }

    private void codes() throws IOException {
        for (Field field : SpanSpotter.class.getFields()) {
            try {
                due.holds("the page tells of " + field.getName(), page.contains(
                        "| `" + field.getName() + "` | " + field.getInt(null) + " |"));
            } catch (IllegalAccessException e) {
                throw new IOException(e);
            }
        }
        due.is("constants", SpanSpotter.class.getFields().length, 4);
    }

    private void tests() throws IOException {
        try (Stream<Path> files = Files.list(Path.of("src/test/java"))) {
            files.map(file -> file.getFileName().toString()).filter(name -> name.endsWith("Test.java"))
                    .map(name -> name.replace(".java", ""))
                    .forEach(name -> due.holds("the page tells of " + name,
                            page.contains("| " + name + " |")));
        }
    }
}
