import java.lang.reflect.Method;
import java.lang.reflect.Modifier;
import java.nio.charset.StandardCharsets;
import java.nio.file.Files;
import java.nio.file.Path;
import java.util.regex.Matcher;
import java.util.regex.Pattern;

/** README.md: its example answers as it says, and its table names every call. */
public final class ReadmeTest {
    private static final Check CHECK = new Check("ReadmeTest");
    private static final Pattern LETTERS = Pattern.compile("for \\(char c : \"(.*)\"\\..*mirror\\.(write|quill)\\(c\\);.*");
    private static final Pattern CALL = Pattern.compile("mirror\\.(\\w+)\\(([0-9, ]*)\\); +// (-?[0-9]+):.*");

    public static void main(String[] args) throws Exception {
        String readme = Files.readString(Path.of("README.md"), StandardCharsets.UTF_8);
        example(readme);
        table(readme);
        CHECK.end();
    }

    private static void example(String readme) throws Exception {
        String[] parts = readme.split("```(java)?\n");
        CHECK.holds("there is no example", parts.length == 3);
        TrueOnceWeek mirror = new TrueOnceWeek();
        String[] lines = parts[1].split("\n");
        for (int i = 1; i < lines.length; i++) {
            Matcher letters = LETTERS.matcher(lines[i]);
            Matcher call = CALL.matcher(lines[i]);
            if (letters.matches()) {
                writeAll(mirror, letters.group(1), letters.group(2).equals("write"));
            } else if (call.matches()) {
                CHECK.due(call.group(1), answered(mirror, call.group(1), call.group(2)), Long.parseLong(call.group(3)));
            } else {
                CHECK.holds("a line that is not understood: " + lines[i], false);
            }
        }
    }

    private static void writeAll(TrueOnceWeek mirror, String letters, boolean isText) {
        for (char c : letters.toCharArray()) {
            CHECK.holds("a letter is refused", (isText ? mirror.write(c) : mirror.quill(c)) > 0);
        }
    }

    private static long answered(TrueOnceWeek mirror, String name, String numbers) throws Exception {
        for (Method m : TrueOnceWeek.class.getDeclaredMethods()) {
            if (m.getName().equals(name)) {
                String[] told = numbers.isEmpty() ? new String[0] : numbers.split(", ");
                Object[] given = new Object[told.length];
                for (int i = 0; i < told.length; i++) {
                    given[i] = Integer.parseInt(told[i]);
                }
                return ((Number) m.invoke(mirror, given)).longValue();
            }
        }
        throw new IllegalStateException("there is no call " + name);
    }

    private static void table(String readme) {
        for (Method m : TrueOnceWeek.class.getDeclaredMethods()) {
            if (Modifier.isPublic(m.getModifiers())) {
                boolean named = Pattern.compile("(?m)^\\|.*`" + m.getName() + "`.*\\|.*\\|$").matcher(readme).find();
                CHECK.holds("README.md's table lacks " + m.getName(), named);
            }
        }
    }
}
