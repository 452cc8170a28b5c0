import java.lang.reflect.Constructor;
import java.lang.reflect.Field;
import java.lang.reflect.Method;
import java.lang.reflect.Modifier;
import java.nio.charset.StandardCharsets;
import java.nio.file.Files;
import java.nio.file.Path;
import java.util.Arrays;
import java.util.Set;
import java.util.TreeSet;
import java.util.regex.Matcher;
import java.util.regex.Pattern;

/** The public face, and what of LANGUAGE.md can be seen from the class and its text. */
public final class FaceTest {
    private static final String[] FACE = {
        "int write(int)", "int wipe()", "int fault()", "int castle()", "int quill(int)", "int blot()", "int slip()",
        "int about(int)", "int fact(int, int)", "int ask()", "int day()", "int cloth()", "int undo()",
        "int answer(int, int)", "int parts(int)", "int simpleParts(int, int)", "int toAsk()", "int dumb()",
        "int tells(int, int, int)", "int choice(int, long, int)", "int both(int)", "int tell(int, int, boolean)",
        "int untell()", "int march(int)", "int likely(int, boolean)", "long seed(long)", "int year(int)",
        "int keep(int)", "int again(int)"
    };
    private static final String[] CONSTANTS = {"UNKNOWN", "BAD", "LATE", "FULL", "NONE"};
    private static final int MOST_CLASSES = 12;
    private static final int MOST_FIELDS = 20;
    private static final int MOST_PARAMETERS = 7;
    private static final int MOST_LINES = 60;

    private static final Check CHECK = new Check("FaceTest");

    public static void main(String[] args) throws Exception {
        Set<String> publicNames = face();
        constants();
        classes(publicNames);
        source();
        CHECK.end();
    }

    private static String told(Method m) {
        String parameters = Arrays.toString(Arrays.stream(m.getParameterTypes()).map(Class::getName).toArray());
        return m.getReturnType().getName() + " " + m.getName() + "("
                + parameters.substring(1, parameters.length() - 1) + ")";
    }

    private static Set<String> face() {
        Set<String> want = new TreeSet<>(Arrays.asList(FACE));
        Set<String> got = new TreeSet<>();
        Set<String> names = new TreeSet<>();
        for (Method m : TrueOnceWeek.class.getDeclaredMethods()) {
            if (!Modifier.isPrivate(m.getModifiers())) {
                CHECK.holds(m + " is not public", Modifier.isPublic(m.getModifiers()));
                CHECK.holds(m + " is static", !Modifier.isStatic(m.getModifiers()));
                got.add(told(m));
                names.add(m.getName());
            }
        }
        CHECK.holds("the methods are " + got + ", due are " + want, got.equals(want));
        int modifiers = TrueOnceWeek.class.getModifiers();
        CHECK.holds("the class is not public and final", Modifier.isPublic(modifiers) && Modifier.isFinal(modifiers));
        Constructor<?>[] makers = TrueOnceWeek.class.getDeclaredConstructors();
        CHECK.holds("not one public constructor without parameters", makers.length == 1
                && Modifier.isPublic(makers[0].getModifiers()) && makers[0].getParameterCount() == 0);
        return names;
    }

    private static void constants() throws Exception {
        int[] values = {-1, -2, -3, -4, -9};
        Set<String> open = new TreeSet<>();
        for (Field f : TrueOnceWeek.class.getDeclaredFields()) {
            if (!Modifier.isPrivate(f.getModifiers())) {
                open.add(f.getName());
            }
        }
        CHECK.holds("the constants are " + open, open.equals(new TreeSet<>(Arrays.asList(CONSTANTS))));
        for (int i = 0; i < CONSTANTS.length; i++) {
            Field f = TrueOnceWeek.class.getDeclaredField(CONSTANTS[i]);
            boolean constant = f.getModifiers() == (Modifier.PUBLIC | Modifier.STATIC | Modifier.FINAL);
            CHECK.holds(f + " is no public constant", constant && f.getType() == int.class);
            CHECK.due(CONSTANTS[i], f.getInt(null), values[i]);
        }
    }

    private static void classes(Set<String> publicNames) {
        Class<?>[] inside = TrueOnceWeek.class.getDeclaredClasses();
        CHECK.holds("too many classes", inside.length + 1 <= MOST_CLASSES);
        oneClass(TrueOnceWeek.class, publicNames);
        for (Class<?> c : inside) {
            CHECK.holds(c + " is not static", Modifier.isStatic(c.getModifiers()));
            CHECK.holds(c + " is open", !Modifier.isPublic(c.getModifiers()) && !Modifier.isProtected(c.getModifiers()));
            oneClass(c, publicNames);
        }
    }

    private static void oneClass(Class<?> c, Set<String> publicNames) {
        int fields = 0;
        for (Field f : c.getDeclaredFields()) {
            if (Modifier.isStatic(f.getModifiers())) {
                CHECK.holds(f + " is static and not final", Modifier.isFinal(f.getModifiers()));
            } else {
                fields++;
            }
        }
        CHECK.holds(c + " has too many fields", fields <= MOST_FIELDS);
        for (Method m : c.getDeclaredMethods()) {
            CHECK.holds(m + " has too many parameters", m.getParameterCount() <= MOST_PARAMETERS);
            boolean ofFace = c == TrueOnceWeek.class && Modifier.isPublic(m.getModifiers());
            CHECK.holds(m + " bears a public name", ofFace || !publicNames.contains(m.getName()));
        }
    }

    private static void source() throws Exception {
        Path path = Path.of("src/main/java/TrueOnceWeek.java");
        String text = Files.readString(path, StandardCharsets.US_ASCII);
        String code = text.replaceAll("(?s)/\\*.*?\\*/", "").replaceAll("//[^\n]*", "");
        String[] words = {"throw", "throws", "try", "catch", "finally", "synchronized", "assert", "import", "package",
            "double", "float", "equals", "hashCode", "toString", "protected", "null", "Object", "Exception"};
        for (String word : words) {
            CHECK.holds("the text has '" + word + "'", !Pattern.compile("\\b" + word + "\\b").matcher(code).find());
        }
        CHECK.holds("the text has a lambda or a method reference", !code.contains("->") && !code.contains("::"));
        library(code);
        methodLengths(code);
        for (String line : code.split("\n")) {
            boolean ofConstructor = line.matches(" +private final .* = new .*;") || line.contains("bytes = new int[");
            CHECK.holds("a call makes objects: " + line, ofConstructor || !line.matches(".*\\bnew\\b.*"));
        }
    }

    private static void library(String code) {
        Set<String> allowed = Set.of("Integer.bitCount", "Math.min", "Math.max", "System.arraycopy");
        Matcher m = Pattern.compile("\\b(Integer|Long|Math|System|Arrays|String|Character|Boolean)\\.\\w+").matcher(code);
        while (m.find()) {
            CHECK.holds("the text uses " + m.group(), allowed.contains(m.group()));
        }
    }

    /** A method's lines: from a line that ends in ") {" and is indented as a member to its closing brace. */
    private static void methodLengths(String code) {
        int begin = -1;
        String close = "";
        String[] lines = code.split("\n", -1);
        for (int i = 0; i < lines.length; i++) {
            Matcher head = Pattern.compile("^( {4}| {8})\\w.*\\) \\{$").matcher(lines[i]);
            if (begin < 0 && head.matches() && !lines[i].matches(" +(if|for|while|switch|do)\\b.*")) {
                begin = i;
                close = head.group(1) + "}";
            } else if (begin >= 0 && lines[i].equals(close)) {
                CHECK.holds("the method at line " + begin + " is long", i - begin < MOST_LINES);
                begin = -1;
            }
        }
    }
}
