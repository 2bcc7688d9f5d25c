import java.lang.reflect.Method;
import java.lang.reflect.Modifier;
import java.nio.file.Files;
import java.nio.file.Path;
import java.util.List;
import java.util.regex.Matcher;
import java.util.regex.Pattern;

/** What README.md says of the class holds: its examples, run line by line, and the table of calls. */
public final class ReadmeTest {
    private static final Pattern MADE = Pattern.compile("TruePies pies = new TruePies\\(\\);");
    private static final Pattern TYPED = Pattern.compile("for \\(char letter : \"([^\"]*)\"\\.toCharArray\\(\\)\\) \\{");
    private static final Pattern ANSWERED = Pattern.compile("pies\\.(\\w+)\\(([-\\d, ]*)\\);\\s+// (-?\\d+)\\b.*");
    private static final Pattern TYPING = Pattern.compile("\\s+pies\\.type\\(letter\\);|\\}");

    private static final int LEAST_EXAMPLES = 25;

    public static void main(String[] args) throws Exception {
        Due d = new Due();
        List<String> page = Files.readAllLines(Path.of("README.md"));
        examples(d, page);
        table(d, page);
        d.end();
    }

    private static void examples(Due d, List<String> page) throws Exception {
        TruePies pies = new TruePies();
        boolean inCode = false;
        int ran = 0;
        for (String line : page) {
            if (line.startsWith("```")) {
                inCode = line.equals("```java");
                continue;
            }
            if (!inCode) {
                continue;
            }
            Matcher typed = TYPED.matcher(line);
            Matcher answered = ANSWERED.matcher(line);
            if (MADE.matcher(line).matches()) {
                pies = new TruePies();
            } else if (typed.matches()) {
                Due.typeAll(pies, typed.group(1));
            } else if (answered.matches()) {
                long got = call(pies, answered.group(1), answered.group(2));
                d.due(line, got, Long.parseLong(answered.group(3)));
                ran++;
            } else {
                d.due("a line of README.md that is no example: " + line, TYPING.matcher(line).matches() ? 1 : 0, 1);
            }
        }
        d.due("examples in README.md, at least " + LEAST_EXAMPLES, ran >= LEAST_EXAMPLES ? 1 : 0, 1);
    }

    private static long call(TruePies pies, String name, String numbers) throws Exception {
        String[] parts = numbers.isEmpty() ? new String[0] : numbers.split(", ");
        Class<?>[] types = new Class<?>[parts.length];
        Object[] values = new Object[parts.length];
        for (int i = 0; i < parts.length; i++) {
            types[i] = int.class;
            values[i] = Integer.valueOf(parts[i]);
        }
        Number answer = (Number) TruePies.class.getMethod(name, types).invoke(pies, values);
        return answer.longValue();
    }

    private static void table(Due d, List<String> page) {
        String text = String.join("\n", page);
        for (Method m : TruePies.class.getDeclaredMethods()) {
            if (Modifier.isPublic(m.getModifiers())) {
                Matcher named = Pattern.compile("`" + m.getName() + "\\(([^)]*)\\)`").matcher(text);
                boolean found = false;
                while (named.find()) {
                    int given = named.group(1).isEmpty() ? 0 : named.group(1).split(",").length;
                    found |= given == m.getParameterCount();
                }
                d.due("README.md names " + m.getName(), found ? 1 : 0, 1);
            }
        }
    }
}
