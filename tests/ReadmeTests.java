import java.io.File;
import java.lang.reflect.Method;
import java.lang.reflect.Modifier;
import java.nio.charset.StandardCharsets;
import java.nio.file.Files;
import java.util.regex.Matcher;
import java.util.regex.Pattern;

/** README.md: it names every call of the face, and the calls of its examples answer what it says there. */
final class ReadmeTests {
    private static final Pattern EXAMPLE = Pattern.compile("x\\.(\\w+)\\(([-0-9a-fx, ]*)\\); *// (-?[0-9]+)(?:$|:.*)");
    private static final String BEGIN = "HillBoxes x = new HillBoxes();";

    public static void main(String[] args) throws Exception {
        File file = new File(System.getProperty("root", "."), "README.md");
        String text = new String(Files.readAllBytes(file.toPath()), StandardCharsets.UTF_8);
        namesEveryCall(text);
        examples(text);
        Due.end("ReadmeTests");
    }

    /** A call stands in its table with as many arguments as it has, once. */
    private static void namesEveryCall(String text) {
        for (Method m : HillBoxes.class.getDeclaredMethods()) {
            if (Modifier.isPublic(m.getModifiers())) {
                Matcher line = Pattern.compile("(?m)^\\| `" + m.getName() + "\\(([a-z, ]*)\\)` \\|").matcher(text);
                Due.be("README tells " + m.getName(), line.find() ? 1 : 0, 1);
                Due.be("arguments of " + m.getName(), split(line.group(1)).length, m.getParameterCount());
                Due.be("README tells " + m.getName() + " again", line.find() ? 1 : 0, 0);
            }
        }
    }

    private static void examples(String text) throws Exception {
        HillBoxes x = null;
        int made = 0;
        boolean inside = false;
        for (String line : text.split("\n")) {
            if (line.startsWith("```")) {
                inside = line.equals("```java");
            } else if (inside && line.equals(BEGIN)) {
                x = new HillBoxes();
                made++;
            } else if (inside) {
                answers(x, line);
            }
        }
        Due.be("examples", made, 5);
    }

    private static void answers(HillBoxes x, String line) throws Exception {
        Matcher call = EXAMPLE.matcher(line);
        Due.be("a call and its answer: " + line, call.matches() ? 1 : 0, 1);
        Method m = named(call.group(1));
        String[] told = split(call.group(2));
        Object[] arguments = new Object[told.length];
        for (int i = 0; i < told.length; i++) {
            boolean isLong = m.getParameterTypes()[i] == long.class;
            arguments[i] = isLong ? (Object) Long.decode(told[i]) : (Object) Integer.decode(told[i]);
        }
        Due.be(line, ((Number) m.invoke(x, arguments)).longValue(), Long.parseLong(call.group(3)));
    }

    private static String[] split(String arguments) {
        return arguments.isEmpty() ? new String[0] : arguments.split(", *");
    }

    private static Method named(String name) {
        for (Method m : HillBoxes.class.getDeclaredMethods()) {
            if (Modifier.isPublic(m.getModifiers()) && m.getName().equals(name)) {
                return m;
            }
        }
        throw new IllegalStateException("no such call: " + name);
    }
}
