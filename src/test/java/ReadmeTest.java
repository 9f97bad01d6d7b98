import java.io.IOException;
import java.nio.file.Files;
import java.nio.file.Path;
import java.util.Set;
import java.util.TreeSet;
import java.util.regex.Matcher;
import java.util.regex.Pattern;

/** The example of README.md answers what stands beside it there, and no call is left out of its list. */
public final class ReadmeTest {
    private static final Pattern CALL = Pattern.compile("x\\.(\\w+)\\(([^)]*)\\);\\s*// (-?\\d+)");

    public static void main(String[] args) throws IOException {
        Due due = new Due();
        String readme = Files.readString(Path.of("README.md"));
        int start = readme.indexOf("```java");
        String example = readme.substring(start, readme.indexOf("```", start + 3));
        SlipWeeks x = new SlipWeeks();
        int calls = 0;
        for (String line : example.split("\n")) {
            Matcher m = CALL.matcher(line);
            if (m.find()) {
                calls++;
                due.is("README.md: " + line, Calls.on(x, m.group(1), arguments(m.group(2))), Long.parseLong(m.group(3)));
            } else {
                due.is("README.md, no call without its answer: " + line, line.contains("x.") ? 1 : 0, 0);
            }
        }
        due.is("calls in the example", calls > 5 ? 1 : 0, 1);
        for (String name : faceNames()) {
            due.is(name + " stands in README.md", readme.contains("`" + name + "(") ? 1 : 0, 1);
        }
        due.end();
    }

    private static long[] arguments(String text) {
        String[] parts = text.isBlank() ? new String[0] : text.split(",");
        long[] a = new long[parts.length];
        for (int i = 0; i < a.length; i++) {
            a[i] = Long.decode(parts[i].trim());
        }
        return a;
    }

    private static Set<String> faceNames() {
        Set<String> names = new TreeSet<>();
        for (java.lang.reflect.Method m : SlipWeeks.class.getDeclaredMethods()) {
            if (java.lang.reflect.Modifier.isPublic(m.getModifiers())) {
                names.add(m.getName());
            }
        }
        return names;
    }
}
