import java.io.IOException;
import java.lang.reflect.Constructor;
import java.lang.reflect.Field;
import java.lang.reflect.Method;
import java.lang.reflect.Modifier;
import java.nio.file.Files;
import java.nio.file.Path;
import java.util.ArrayList;
import java.util.Arrays;
import java.util.List;
import java.util.TreeSet;

/** The public face, as the document writes it out, and a few rules of the language. */
public final class FaceTest {
    private static final Check check = new Check("face");
    private static final Path DOCUMENT = Path.of("../shared/DOC.md");
    private static final Path SOURCE = Path.of("src/main/java/FormulaVoice.java");

    public static void main(String[] args) throws IOException {
        TreeSet<String> want = new TreeSet<>(documentFace());
        TreeSet<String> got = new TreeSet<>();
        Class<?> type = FormulaVoice.class;
        check.due("public and final", type.getModifiers() & (Modifier.PUBLIC | Modifier.FINAL), Modifier.PUBLIC | Modifier.FINAL);
        for (Method m : type.getDeclaredMethods()) {
            if (Modifier.isPrivate(m.getModifiers())) {
                check.due("private " + m.getName() + " has a name of its own", hasPublic(type, m.getName()) ? 1 : 0, 0);
            } else {
                got.add(told(m));
            }
        }
        for (String line : want) {
            check.due("there is " + line, got.contains(line) ? 1 : 0, 1);
        }
        check.due("no more than the document has", got.size(), want.size());
        for (Constructor<?> c : type.getDeclaredConstructors()) {
            check.due("the constructor", c.getParameterCount(), 0);
        }
        for (Field f : type.getDeclaredFields()) {
            check.due("private " + f.getName(), Modifier.isPrivate(f.getModifiers()) ? 1 : 0, 1);
        }
        for (Class<?> inside : type.getDeclaredClasses()) {
            check.due("static " + inside.getName(), Modifier.isStatic(inside.getModifiers()) ? 1 : 0, 1);
            check.due("not public " + inside.getName(), Modifier.isPublic(inside.getModifiers()) ? 1 : 0, 0);
        }
        check.due("some twelve classes at most", type.getDeclaredClasses().length < 12 ? 1 : 0, 1);
        form(type);
        for (Class<?> inside : type.getDeclaredClasses()) {
            form(inside);
        }
        source();
        methodLengths();
        check.end();
    }

    /** Rules 5 and 11: static fields are constants; few parameters and few fields. */
    private static void form(Class<?> type) {
        int own = 0;
        for (Field f : type.getDeclaredFields()) {
            boolean isStatic = Modifier.isStatic(f.getModifiers());
            own += isStatic ? 0 : 1;
            if (isStatic) {
                boolean constant = Modifier.isFinal(f.getModifiers())
                        && List.of("int", "long", "boolean", "char", "String").contains(f.getType().getSimpleName());
                check.due("a constant: " + f, constant ? 1 : 0, 1);
            }
        }
        check.due("fields of " + type.getName(), own <= 20 ? 1 : 0, 1);
        for (Method m : type.getDeclaredMethods()) {
            check.due("parameters of " + m, m.getParameterCount() <= 7 ? 1 : 0, 1);
        }
    }

    /** Rule 11: a method's first line and its last stand equally far in. */
    private static void methodLengths() throws IOException {
        List<String> lines = Files.readAllLines(SOURCE);
        for (int i = 0; i < lines.size(); i++) {
            String line = lines.get(i);
            int in = line.length() - line.stripLeading().length();
            if (in > 8 || !line.endsWith("{") || !line.contains("(") || line.contains("class ")) {
                continue;
            }
            int j = i;
            while (j < lines.size() && !lines.get(j).equals(" ".repeat(in) + "}")) {
                j++;
            }
            check.due("short:" + line, j - i < 60 ? 1 : 0, 1);
        }
    }

    private static boolean hasPublic(Class<?> type, String name) {
        return Arrays.stream(type.getDeclaredMethods())
                .anyMatch(m -> Modifier.isPublic(m.getModifiers()) && m.getName().equals(name));
    }

    private static String told(Method m) {
        List<String> types = new ArrayList<>();
        for (Class<?> p : m.getParameterTypes()) {
            types.add(p.getSimpleName());
        }
        List<String> thrown = new ArrayList<>();
        for (Class<?> e : m.getExceptionTypes()) {
            thrown.add(e.getSimpleName());
        }
        return m.getReturnType().getSimpleName() + " " + m.getName() + types + thrown;
    }

    private static List<String> documentFace() throws IOException {
        List<String> all = new ArrayList<>();
        for (String line : Files.readAllLines(DOCUMENT)) {
            String text = line.trim();
            if (!line.startsWith("    public ") || text.startsWith("public FormulaVoice")) {
                continue;
            }
            String[] head = text.substring(7, text.indexOf('(')).split(" ");
            List<String> types = new ArrayList<>();
            String inside = text.substring(text.indexOf('(') + 1, text.indexOf(')'));
            for (String p : inside.isEmpty() ? new String[0] : inside.split(", ")) {
                types.add(p.split(" ")[0]);
            }
            String behind = text.substring(text.indexOf(')') + 1, text.length() - 1).replace(" throws ", "");
            List<String> thrown = behind.isEmpty() ? List.of() : Arrays.asList(behind.split(", "));
            all.add(head[0] + " " + head[1] + types + thrown);
        }
        return all;
    }

    private static void source() throws IOException {
        String text = Files.readString(SOURCE);
        for (String barred : new String[] {"import ", "package ", "catch", "finally", "->", "::", "synchronized",
                "assert", "System.out", "System.current", "Random", "Exact"}) {
            check.due("the source has \"" + barred + "\"", text.contains(barred) ? 1 : 0, 0);
        }
        for (int i = 0; i < text.length(); i++) {
            check.due("sign " + i, text.charAt(i) > 127 ? 1 : 0, 0);
        }
    }
}
