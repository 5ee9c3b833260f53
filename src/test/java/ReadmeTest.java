import java.io.IOException;
import java.lang.reflect.Method;
import java.nio.file.Files;
import java.nio.file.Path;
import java.util.ArrayList;
import java.util.List;
import java.util.regex.Matcher;
import java.util.regex.Pattern;
import java.util.stream.Stream;

/** README.md: its desk answers what the page says, and the page names every call and every test. */
public final class ReadmeTest {
    private static final Pattern CALL = Pattern.compile("desk\\.(\\w+)\\(([-\\d, ]*)\\);\\s+// (-?\\d+|true|false): .*");

    private final Due due = new Due("ReadmeTest");
    private final String page;

    private ReadmeTest() throws IOException {
        page = Files.readString(Path.of("README.md"));
    }

    public static void main(String[] args) throws IOException {
        ReadmeTest test = new ReadmeTest();
        test.answers();
        test.calls();
        test.tests();
        test.due.end();
    }

    private void answers() {
        due.part("the desk");
        Run run = null;
        for (String line : example()) {
            if (line.equals("JettisonDesk desk = new JettisonDesk();")) {
                run = Run.of();
                continue;
            }
            Matcher call = CALL.matcher(line);
            due.is(line + " is a call on a desk, with its answer", run != null && call.matches(), true);
            if (run == null || !call.matches()) {
                return;
            }
            String text = (call.group(1) + " " + call.group(2).replace(",", "")).trim();
            due.is(line, run.answer(text), number(call.group(3)));
            run = run.then(text);
        }
        due.is("there is a desk", run != null, true);
    }

    private List<String> example() {
        String[] halves = page.split("```java\n", 2);
        String code = halves.length < 2 ? "" : halves[1].split("```", 2)[0];
        return new ArrayList<>(code.lines().toList());
    }

    private static long number(String answer) {
        return switch (answer) {
            case "true" -> 1;
            case "false" -> 0;
            default -> Long.parseLong(answer);
        };
    }

    private void calls() {
        due.part("the table of calls");
        for (Method method : JettisonDesk.class.getMethods()) {
            if (method.getDeclaringClass() == JettisonDesk.class) {
                due.is(method.getName(), Pattern.compile("\\| .*`" + method.getName() + "\\(").matcher(page).find(), true);
            }
        }
    }

    private void tests() throws IOException {
        due.part("the table of tests");
        try (Stream<Path> files = Files.list(Path.of("src/test/java"))) {
            for (Path file : files.toList()) {
                String name = file.getFileName().toString().replace(".java", "");
                due.is(name, page.contains("`" + name + "`"), true);
            }
        }
    }
}
