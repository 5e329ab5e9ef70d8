import java.io.IOException;
import java.lang.reflect.Constructor;
import java.lang.reflect.Field;
import java.lang.reflect.Method;
import java.lang.reflect.Modifier;
import java.nio.file.Files;
import java.nio.file.Path;
import java.util.ArrayList;
import java.util.List;
import java.util.Set;
import java.util.TreeSet;
import java.util.regex.Matcher;
import java.util.regex.Pattern;

/** The public face, and the rules of LANGUAGE.md that a look at the class or its text can find. */
final class FaceTest {
    private static final Check check = new Check();

    /** IAE, IOOBE and ISE stand for the exceptions that a method tells of, in this order. */
    private static final String[] METHODS = {
        "int setBridges(int) IAE", "int setTimes(int,int,int) IAE", "int setPriority(int,int) IOOBE IAE",
        "int addLink(int,int,int) IOOBE IAE ISE", "int fail(int) IOOBE ISE", "int fix(int) IOOBE ISE",
        "int moveHost(int,int) IOOBE", "int bid(int,int,int) IOOBE IAE", "int grant(int,int) IOOBE IAE ISE",
        "int tick(int) IAE", "int time()", "int send(int,int) IOOBE IAE", "int bridge(int,int) IOOBE IAE",
        "int links()", "int link(int,int) IOOBE IAE", "int port(int,boolean,int) IOOBE IAE",
        "int entry(int,int) IOOBE", "int tenant(int,int) IOOBE IAE", "int bidOf(int,int) IOOBE",
        "int count(int) IAE", "boolean isForest()", "int type(int) IAE ISE", "int clearScript()", "int run()",
        "int undo() ISE", "long digest()"
    };

    public static void main(String[] args) throws IOException, ReflectiveOperationException {
        int flags = BridgeAuction.class.getModifiers();
        check.due("public final class", Modifier.isPublic(flags) && Modifier.isFinal(flags), true);
        Constructor<?>[] made = BridgeAuction.class.getDeclaredConstructors();
        check.due("constructors", made.length, 1);
        check.due("public BridgeAuction()",
                Modifier.isPublic(made[0].getModifiers()) && made[0].getParameterCount() == 0, true);
        checkMethods();
        checkFields();
        checkNested();
        checkSizes();
        checkText();
        checkMethodLengths();
        check.finish();
    }

    private static String shape(Method m) {
        StringBuilder text = new StringBuilder(m.getReturnType() + " " + m.getName() + "(");
        for (int i = 0; i < m.getParameterCount(); i++) {
            text.append(i == 0 ? "" : ",").append(m.getParameterTypes()[i]);
        }
        text.append(")");
        for (Class<?> thrown : m.getExceptionTypes()) {
            text.append(" ").append(thrown.getSimpleName().replaceAll("[a-z]", ""));
        }
        return text.toString();
    }

    private static void checkMethods() {
        Set<String> want = new TreeSet<>(Set.of(METHODS));
        Set<String> got = new TreeSet<>();
        Set<String> names = new TreeSet<>();
        for (Method m : BridgeAuction.class.getDeclaredMethods()) {
            if (!Modifier.isPrivate(m.getModifiers())) {
                got.add(shape(m));
                names.add(m.getName());
            }
        }
        check.due("methods of the face " + got, got.equals(want), true);
        for (Method m : BridgeAuction.class.getDeclaredMethods()) {
            if (Modifier.isPrivate(m.getModifiers())) {
                check.due("the private name " + m.getName() + " is public", names.contains(m.getName()), false);
            }
        }
    }

    private static void checkFields() throws ReflectiveOperationException {
        String[] names = {"NONE", "ROOT", "DESIGNATED", "ALTERNATE", "BLOCKING", "LISTENING", "LEARNING",
            "FORWARDING"};
        int[] values = {-1, 0, 1, 2, 0, 1, 2, 3};
        for (int i = 0; i < names.length; i++) {
            Field f = BridgeAuction.class.getDeclaredField(names[i]);
            int flags = f.getModifiers();
            check.due("public static final " + names[i],
                    Modifier.isPublic(flags) && Modifier.isStatic(flags) && Modifier.isFinal(flags), true);
            check.due(names[i], f.getInt(null), values[i]);
        }
        int open = 0;
        for (Field f : BridgeAuction.class.getDeclaredFields()) {
            open += Modifier.isPrivate(f.getModifiers()) ? 0 : 1;
        }
        check.due("fields that are not private", open, names.length);
    }

    private static void checkNested() {
        Class<?>[] nested = BridgeAuction.class.getDeclaredClasses();
        check.due("at most twelve classes", nested.length + 1 <= 12, true);
        for (Class<?> c : nested) {
            check.due(c + " is static", Modifier.isStatic(c.getModifiers()), true);
            check.due(c + " is open",
                    Modifier.isPublic(c.getModifiers()) || Modifier.isProtected(c.getModifiers()), false);
            for (Field f : c.getDeclaredFields()) {
                int flags = f.getModifiers();
                check.due(f + " is static and not final",
                        Modifier.isStatic(flags) && !Modifier.isFinal(flags), false);
            }
        }
    }

    private static void checkSizes() {
        for (Class<?> c : allClasses()) {
            int held = 0;
            for (Field f : c.getDeclaredFields()) {
                held += Modifier.isStatic(f.getModifiers()) ? 0 : 1;
            }
            check.due(c + " has at most twenty fields", held <= 20, true);
            for (Method m : c.getDeclaredMethods()) {
                check.due(m + " takes at most seven parameters", m.getParameterCount() <= 7, true);
            }
        }
    }

    private static List<Class<?>> allClasses() {
        List<Class<?>> all = new ArrayList<>(List.of(BridgeAuction.class.getDeclaredClasses()));
        all.add(BridgeAuction.class);
        return all;
    }

    /** A method ends with a brace that stands as far in as its first line. */
    private static void checkMethodLengths() throws IOException {
        List<String> lines = Files.readAllLines(Path.of("src/main/java/BridgeAuction.java"));
        Pattern head = Pattern.compile("( {4}| {8})[A-Za-z].*\\(.*[^;]");
        int methods = 0;
        for (int i = 0; i < lines.size(); i++) {
            Matcher found = head.matcher(lines.get(i));
            if (found.matches() && !lines.get(i).contains("=")) {
                int end = i + 1;
                while (end < lines.size() && !lines.get(end).equals(found.group(1) + "}")) {
                    end++;
                }
                methods++;
                check.due("at most sixty lines: " + lines.get(i), end - i < 60, true);
            }
        }
        check.due("methods were found", methods > 26, true);
    }

    private static void checkText() throws IOException {
        String text = Files.readString(Path.of("src/main/java/BridgeAuction.java"));
        String[] words = {"import ", "->", "::", "catch", "try ", "finally", "synchronized", "assert ",
            "package ", "Exact(", "double", "float"};
        for (String word : words) {
            check.due("the text has '" + word + "'", text.contains(word), false);
        }
    }
}
