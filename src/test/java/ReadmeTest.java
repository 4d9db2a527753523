import java.io.IOException;
import java.lang.reflect.Method;
import java.nio.file.Files;
import java.nio.file.Path;
import java.util.HashSet;
import java.util.List;
import java.util.Set;
import java.util.regex.Matcher;
import java.util.regex.Pattern;

/** Every call that README.md shows, in its turn on one object: it gives the answer that stands behind it. */
final class ReadmeTest {
    private static final Pattern CALL = Pattern.compile("truck\\.(\\w+)\\((.*?)\\);\\s*// (-?\\d+):.*");
    private static final int LEAST_CALLS = 40;

    private ReadmeTest() { }

    static void run() {
        PileSteadier truck = new PileSteadier();
        int calls = 0;
        Set<Long> answers = new HashSet<>();
        for (String line : linesOfReadme()) {
            if (!line.startsWith("truck.")) continue;
            Matcher m = CALL.matcher(line);
            Check.holds("README: a call with its answer: " + line, m.matches());
            if (!m.matches()) continue;
            long due = Long.parseLong(m.group(3));
            String call = "README: truck." + m.group(1) + "(" + m.group(2) + ")";
            Check.due(call, answer(truck, m.group(1), m.group(2)), due);
            answers.add(due);
            calls++;
        }
        Check.holds("README: calls are found", calls >= LEAST_CALLS);
        for (long refusal : new long[] {-1, -2, -3, -4, -11, -12, -13, -14, -100, PileSteadier.NO}) {
            Check.holds("README: " + refusal + " is shown", answers.contains(refusal));
        }
    }

    /** The tests are begun in the project's folder. */
    private static List<String> linesOfReadme() {
        try {
            return Files.readAllLines(Path.of("README.md"));
        } catch (IOException e) {
            Check.holds("README.md can be read", false);
            return List.of();
        }
    }

    private static long answer(PileSteadier truck, String name, String arguments) {
        String[] texts = arguments.isEmpty() ? new String[0] : arguments.split(", ");
        Object[] numbers = new Object[texts.length];
        for (int i = 0; i < texts.length; i++) numbers[i] = number(texts[i]);
        for (Method m : PileSteadier.class.getDeclaredMethods()) {
            if (!m.getName().equals(name) || m.getParameterCount() != numbers.length) continue;
            try {
                return ((Number) m.invoke(truck, numbers)).longValue();
            } catch (ReflectiveOperationException e) {
                throw new AssertionError(e);
            }
        }
        throw new AssertionError("README: there is no call " + name + " of " + numbers.length + " numbers");
    }

    private static int number(String text) {
        if (text.equals("PileSteadier.NONE")) return PileSteadier.NONE;
        return text.matches("'.'") ? text.charAt(1) : Integer.parseInt(text);
    }
}
