import java.lang.reflect.Constructor;
import java.lang.reflect.Field;
import java.lang.reflect.Method;
import java.lang.reflect.Modifier;
import java.nio.file.Files;
import java.nio.file.Path;
import java.util.Arrays;
import java.util.Set;
import java.util.TreeSet;
import java.util.stream.Collectors;

/** The public face is the document's and no more, and the source keeps to LANGUAGE.md where a text shows it. */
public final class FaceTest {
    private static final Check check = new Check("FaceTest");
    private static final String[] FACE = {
        "int type(int)", "int clear()", "int rose()", "int pane(int)", "int one(int,int)", "int owed(int,int)",
        "int spins(int)", "int goes(int,int)", "int passes(int)", "int covers(int)", "int forgives(int,int)",
        "int undo()", "int now(int)", "int clicks(int)", "int stops(int)", "int shade(int,int)",
        "int speeds(int,int,int)", "int steps(int,int,int,int)", "int chair(int,int)", "int seats(int,int)",
        "int odds(int,int,int,int,int)", "int saw(int,int)", "int spun(int)", "int look()", "int hears(int,int)",
        "int laws(int)", "int tryNext()", "int forget()", "int mark(int,int)", "int keep(int)", "int back(int)",
        "int count(int)", "long trace()"};

    public static void main(String[] args) throws Exception {
        constants();
        members();
        names();
        source();
        check.end();
    }

    private static void constants() throws Exception {
        String[] names = {"BAD", "STATE", "FULL", "NONE", "NO"};
        int[] values = {-1, -2, -3, -9, -1000000};
        for (int i = 0; i < names.length; i++) {
            check.due(names[i], RoseWheel.class.getField(names[i]).getInt(null), values[i]);
        }
        check.due("public fields", RoseWheel.class.getFields().length, names.length);
    }

    private static void members() {
        Class<?> it = RoseWheel.class;
        check.isTrue("the class is public and final", Modifier.isPublic(it.getModifiers()) && Modifier.isFinal(it.getModifiers()));
        Set<String> open = new TreeSet<>();
        for (Method m : it.getDeclaredMethods()) {
            if (Modifier.isPublic(m.getModifiers())) {
                String takes = Arrays.stream(m.getParameterTypes()).map(Class::getName).collect(Collectors.joining(","));
                open.add(m.getReturnType().getName() + " " + m.getName() + "(" + takes + ")");
            } else {
                check.isTrue(m.getName() + " is private", Modifier.isPrivate(m.getModifiers()));
            }
            check.isTrue(m.getName() + " takes seven at most", m.getParameterCount() <= 7);
        }
        check.isTrue("the face is " + open, open.equals(new TreeSet<>(Arrays.asList(FACE))));
        for (Field f : it.getDeclaredFields()) {
            check.isTrue(f.getName() + " is public or private", (f.getModifiers() & (Modifier.PUBLIC | Modifier.PRIVATE)) != 0);
        }
        Constructor<?>[] made = it.getDeclaredConstructors();
        check.isTrue("one public constructor", made.length == 1 && Modifier.isPublic(made[0].getModifiers()) && made[0].getParameterCount() == 0);
    }

    private static void names() {
        Set<String> open = Arrays.stream(FACE).map(f -> f.replaceAll(".* |\\(.*", "")).collect(Collectors.toCollection(TreeSet::new));
        for (Method m : RoseWheel.class.getDeclaredMethods()) {
            check.isTrue(m.getName() + " is not a public name too", Modifier.isPublic(m.getModifiers()) || !open.contains(m.getName()));
        }
        Class<?>[] inside = RoseWheel.class.getDeclaredClasses();
        check.isTrue("some twelve classes", inside.length + 1 <= 12);
        for (Class<?> c : inside) {
            check.isTrue(c.getName() + " is static", Modifier.isStatic(c.getModifiers()));
            check.isTrue(c.getName() + " is not open", (c.getModifiers() & (Modifier.PUBLIC | Modifier.PROTECTED)) == 0);
            for (Method m : c.getDeclaredMethods()) {
                check.isTrue(c.getName() + "." + m.getName() + " is not a public name too", !open.contains(m.getName()));
            }
            for (Field f : c.getDeclaredFields()) {
                check.isTrue(f + " is no static state", !Modifier.isStatic(f.getModifiers()) || Modifier.isFinal(f.getModifiers()));
            }
        }
    }

    private static void source() throws Exception {
        String source = Files.readString(Path.of("src/main/java/RoseWheel.java"));
        String code = source.replaceAll("(?s)/\\*.*?\\*/", "").replaceAll("//[^\n]*", "").replaceAll("'[^']'", "0");
        for (String word : new String[] {"throw", "try", "catch", "finally", "synchronized", "assert", "package", "var", "Object", "random", "Exact"}) {
            check.isTrue("no " + word, !code.matches("(?s).*\\b" + word + "\\b.*"));
        }
        for (String sign : new String[] {"->", "::", "@", "\"", "static {", "while (true)"}) {
            check.isTrue("no " + sign, !code.contains(sign));
        }
        check.isTrue("no sign above 126", source.chars().allMatch(c -> c < 127));
        longestMethod(code);
    }

    private static void longestMethod(String code) {
        int depth = 0;
        int since = 0;
        int line = 0;
        for (String row : code.split("\n")) {
            line++;
            if (row.matches(" {4}( {4})?[\\w\\[\\] ]+\\([^)]*\\) \\{")) {
                since = line;
                depth = row.indexOf(row.trim());
            }
            if (row.equals(" ".repeat(depth) + "}") && since > 0) {
                check.isTrue("the method at line " + since + " is short", line - since < 60);
                since = 0;
            }
        }
    }
}
