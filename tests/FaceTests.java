import java.io.File;
import java.lang.reflect.Constructor;
import java.lang.reflect.Field;
import java.lang.reflect.Method;
import java.lang.reflect.Modifier;
import java.nio.charset.StandardCharsets;
import java.nio.file.Files;
import java.util.ArrayList;
import java.util.HashSet;
import java.util.List;
import java.util.Set;
import java.util.TreeSet;
import java.util.stream.Collectors;

/** The public face as the document gives it, and those rules of LANGUAGE.md that a program can look after. */
final class FaceTests {
    private static final String FACE = "int days(int) int owner(int,int) int body(int) int finder(int) int leaves(int)"
        + " int step(int) int why(int,int,int,int) int hide(int,int,int) int move(int,int,int) int down(int)"
        + " int ofBody(int,int) int liesAt(int,int,int) int feed(int,int) int rule(int,int) int inForce(int,int,int)"
        + " int says(int,int,int,int) int nearest(int,int) int riddle(int,int,int,int) int solve(int,int)"
        + " int solved(int,int) long others(int,int) int log(int,int,int,int) int paper(int,int,int,int)"
        + " int join(int,int,int) int first(int) int isFalse(int,int) int gone(int,int) int chance(int)"
        + " int tell(int,int,int) int jump(int,int) int chain(int) int asks(int,int) int taker(int) int take(int)"
        + " int toPut(int) int putAll() int wish(int,int,int) int walk(int,int) int walked(int) int judge(int,int,int)"
        + " int lookAt(int,int) int nobody(int) int rank(int,int,int,int) int act(int,int,int) int trace(int)"
        + " int keep(int,int) int row(int,int,int) int put(int,int,long) long element(int,int)"
        + " int shift(int,int,int,int,int) int taken(int,int) int count(int)";
    private static final int LONGEST_METHOD = 60, MOST_PARAMETERS = 7, MOST_CLASSES = 12, MOST_FIELDS = 20;

    public static void main(String[] args) throws Exception {
        methods();
        constants();
        constructor();
        noOtherMember();
        classesInside();
        parameters();
        staticFields();
        words();
        lengths();
        Due.end("FaceTests");
    }

    private static String signature(Method m) {
        StringBuilder all = new StringBuilder(m.getReturnType() + " " + m.getName() + "(");
        for (Class<?> type : m.getParameterTypes()) {
            all.append(all.charAt(all.length() - 1) == '(' ? "" : ",").append(type);
        }
        return all.append(')').toString();
    }

    private static void methods() {
        Set<String> due = new TreeSet<>(List.of(FACE.split(" (?=int |long )")));
        Set<String> got = new TreeSet<>();
        for (Method m : HillBoxes.class.getDeclaredMethods()) {
            if (!Modifier.isPrivate(m.getModifiers())) {
                Due.be(m.getName() + " is public, no more", m.getModifiers(), Modifier.PUBLIC);
                got.add(signature(m));
            }
        }
        Due.be("methods of the document", due.size(), 52);
        Due.be("the methods " + due + " are " + got, due.equals(got) ? 1 : 0, 1);
    }

    private static void constants() throws Exception {
        String[] names = {"BAD", "NOT", "FULL", "BIG", "STATE", "VOID"};
        int[] values = {-1, -2, -3, -4, -5, -2000000000};
        for (int i = 0; i < names.length; i++) {
            Field f = HillBoxes.class.getDeclaredField(names[i]);
            Due.be(names[i], f.getInt(null), values[i]);
            Due.be(names[i] + ": public static final", f.getModifiers(), Modifier.PUBLIC | Modifier.STATIC | Modifier.FINAL);
        }
    }

    private static void constructor() {
        Constructor<?>[] all = HillBoxes.class.getDeclaredConstructors();
        Due.be("constructors", all.length, 1);
        Due.be("its parameters", all[0].getParameterCount(), 0);
        Due.be("it is public", all[0].getModifiers(), Modifier.PUBLIC);
        Due.be("the class: public final", HillBoxes.class.getModifiers(), Modifier.PUBLIC | Modifier.FINAL);
        Due.be("no package", HillBoxes.class.getPackageName().length(), 0);
    }

    /** "no other public, protected or package-visible member"; "No private method bears the name of a public one". */
    private static void noOtherMember() {
        int constants = 0;
        for (Field f : HillBoxes.class.getDeclaredFields()) {
            constants += Modifier.isPrivate(f.getModifiers()) ? 0 : 1;
        }
        Due.be("fields that are not private", constants, 6);
        Set<String> open = new HashSet<>();
        for (Method m : HillBoxes.class.getDeclaredMethods()) {
            if (Modifier.isPublic(m.getModifiers())) {
                open.add(m.getName());
            }
        }
        for (Class<?> c : classes()) {
            for (Method m : c.getDeclaredMethods()) {
                if (Modifier.isPrivate(m.getModifiers())) {
                    Due.be("private " + m.getName() + " bears a public name", open.contains(m.getName()) ? 1 : 0, 0);
                }
            }
        }
    }

    private static List<Class<?>> classes() {
        List<Class<?>> all = new ArrayList<>(List.of(HillBoxes.class));
        for (int i = 0; i < all.size(); i++) {
            all.addAll(List.of(all.get(i).getDeclaredClasses()));
        }
        return all;
    }

    private static void classesInside() {
        Due.be("not too many classes", classes().size() <= MOST_CLASSES ? 1 : 0, 1);
        for (Class<?> c : classes()) {
            int modifiers = c.getModifiers();
            boolean isFace = c == HillBoxes.class;
            Due.be(c + " is static", isFace || Modifier.isStatic(modifiers) ? 1 : 0, 1);
            Due.be(c + " is hidden", isFace || !Modifier.isPublic(modifiers) && !Modifier.isProtected(modifiers) ? 1 : 0, 1);
            int fields = 0;
            for (Class<?> at = c; at != null && at != Object.class; at = at.getSuperclass()) {
                for (Field f : at.getDeclaredFields()) {
                    fields += Modifier.isStatic(f.getModifiers()) ? 0 : 1;
                }
            }
            Due.be(c + " has some twenty fields", fields <= MOST_FIELDS ? 1 : 0, 1);
        }
    }

    private static void parameters() {
        for (Class<?> c : classes()) {
            for (Method m : c.getDeclaredMethods()) {
                Due.be(m + ": parameters", m.getParameterCount() <= MOST_PARAMETERS ? 1 : 0, 1);
                Due.be(m + ": no lambda, none of the compiler's", m.isSynthetic() ? 1 : 0, 0);
            }
        }
    }

    /** "constants of int, long, boolean, char or String .. arrays of int, long, char or byte": final, all of them. */
    private static void staticFields() {
        Set<Class<?>> good = Set.of(int.class, long.class, boolean.class, char.class, String.class, int[].class,
            long[].class, char[].class, byte[].class);
        for (Class<?> c : classes()) {
            for (Field f : c.getDeclaredFields()) {
                if (Modifier.isStatic(f.getModifiers())) {
                    Due.be(f + " is final", Modifier.isFinal(f.getModifiers()) ? 1 : 0, 1);
                    Due.be(f + " is of a type that may be static", good.contains(f.getType()) ? 1 : 0, 1);
                }
            }
        }
    }

    // ---- what stands in the file

    private static String source() throws Exception {
        File file = new File(System.getProperty("root", "."), "src/main/java/HillBoxes.java");
        return new String(Files.readAllBytes(file.toPath()), StandardCharsets.ISO_8859_1);
    }

    private static void words() throws Exception {
        String text = source();
        for (int i = 0; i < text.length(); i++) {
            char c = text.charAt(i);
            if (c != '\n' && (c < ' ' || c > '~')) {
                Due.be("a byte of none at " + i, c, ' ');
            }
        }
        String code = text.replaceAll("(?s)/\\*.*?\\*/|//[^\\n]*", "").replaceAll("\"[^\"\\n]*\"", "\"\"");
        String[] none = {"package", "try", "catch", "finally", "throw", "throws", "synchronized", "assert", "protected",
            "volatile", "native", "transient", "System.out", "Math.random", "Thread", "equals", "hashCode", "toString",
            "double", "float", "\\?\\s*extends", "static\\s*\\{"};
        for (String word : none) {
            int met = code.split("(?<![A-Za-z])" + word + "(?![A-Za-z])", -1).length - 1;
            Due.be("the word " + word, met, 0);
        }
        Due.be("a lambda or a reference to a method", code.contains("->") || code.contains("::") ? 1 : 0, 0);
        for (String line : code.split("\n")) {
            if (line.startsWith("import ")) {
                Due.be(line, line.equals("import java.util.Arrays;") ? 1 : 0, 1);
            }
        }
        // texts are joined by a StringBuilder, not by +
        Due.be("texts joined by +", code.matches("(?s).*(\"\"\\s*\\+|\\+\\s*\"\").*") ? 1 : 0, 0);
    }

    /** "Methods stay short (some sixty lines)". */
    private static void lengths() throws Exception {
        List<String> lines = source().lines().collect(Collectors.toList());
        int begin = -1;
        String indent = "";
        for (int i = 0; i < lines.size(); i++) {
            String line = lines.get(i);
            boolean opens = line.matches(" +[A-Za-z].*\\(.*\\) \\{") && !line.contains(" new ")
                && !line.matches(" +(if|for|while|switch|do|else|return|\\}).*");
            if (begin < 0 && opens) {
                begin = i;
                indent = line.substring(0, line.length() - line.stripLeading().length());
            } else if (begin >= 0 && line.equals(indent + "}")) {
                Due.be("lines of " + lines.get(begin).trim(), i - begin + 1 <= LONGEST_METHOD ? 1 : 0, 1);
                begin = -1;
            }
        }
    }
}
