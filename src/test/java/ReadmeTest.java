import java.io.IOException;
import java.lang.reflect.Method;
import java.lang.reflect.Modifier;
import java.nio.file.Files;
import java.nio.file.Path;
import java.util.ArrayList;
import java.util.Comparator;
import java.util.List;
import java.util.Set;
import java.util.TreeSet;
import java.util.regex.Matcher;
import java.util.regex.Pattern;
import java.util.stream.Stream;

/** What README.md says is so: its examples answer as told, its commands run, its tables leave nothing out. */
public final class ReadmeTest {
    private static final Path README = Path.of("README.md"), TESTS = Path.of("src/test/java");
    private static final String CLASS = "src/main/java/RoseWheel.java";
    /** A call of an example, and the number or the constant that it is told to answer. */
    private static final Pattern TOLD = Pattern.compile("(wheel\\.\\w+\\([^)]*\\)); +// (-?\\d+|[A-Z]+)(:.*)?");
    private static final Check check = new Check("ReadmeTest");

    public static void main(String[] args) throws IOException, InterruptedException {
        String page = Files.readString(README);
        // what the examples and the commands make goes into one folder, which is taken away again
        Path room = Files.createTempDirectory("readme");
        try {
            examples(page, room);
            commands(page, room);
        } finally {
            takeAway(room);
        }
        calls(page);
        tests(page);
        constants(page);
        check.end();
    }

    private static void examples(String page, Path room) throws IOException, InterruptedException {
        List<String> blocks = blocks(page, "java");
        check.due("examples", blocks.size(), 2);
        for (int i = 0; i < blocks.size(); i++) {
            Path file = room.resolve("Example.java");
            Files.writeString(file, program(blocks.get(i)));
            String run = "javac -d . \"$OLDPWD\"/" + CLASS + " Example.java && java -cp . Example";
            check.due("example " + i, shell("cd '" + room + "'\n" + run, room), 0);
        }
    }

    /** The example as it stands, but for its calls, of which each is held to what is told of it. */
    private static String program(String block) {
        StringBuilder code = new StringBuilder("public class Example {\n");
        code.append("static int wrong = 0;\n");
        code.append("static void due(String call, long got, long want) {\n");
        code.append("if (got != want) { wrong++; System.out.println(call + \" answered \" + got + \", told is \" + want); } }\n");
        code.append("public static void main(String[] args) {\n");
        int told = 0;
        for (String line : block.split("\n")) {
            Matcher m = TOLD.matcher(line);
            if (m.matches()) {
                String want = m.group(2).matches("[A-Z]+") ? "RoseWheel." + m.group(2) : m.group(2);
                code.append("due(\"").append(m.group(1)).append("\", ").append(m.group(1)).append(", ").append(want).append(");\n");
                told++;
            } else {
                check.isTrue("an answer is told of " + line, !line.startsWith("wheel."));
                code.append(line).append('\n');
            }
        }
        check.isTrue("an example has answers", told > 0);
        return code.append("System.exit(wrong == 0 ? 0 : 1);\n}\n}\n").toString();
    }

    private static void commands(String page, Path room) throws IOException, InterruptedException {
        List<String> blocks = blocks(page, "sh");
        check.due("blocks of commands", blocks.size(), 2);
        for (String block : blocks) {
            check.due("the commands\n" + block, shell(block, room), 0);
        }
        check.isTrue(".ci/run may be run", Files.isExecutable(Path.of(".ci/run")));
    }

    private static int shell(String commands, Path room) throws IOException, InterruptedException {
        ProcessBuilder shell = new ProcessBuilder("sh", "-e", "-c", commands).inheritIO();
        shell.environment().put("TMPDIR", room.toString());
        return shell.start().waitFor();
    }

    private static void calls(String page) {
        Set<String> face = new TreeSet<>();
        for (Method m : RoseWheel.class.getDeclaredMethods()) {
            if (Modifier.isPublic(m.getModifiers())) {
                face.add(m.getName() + " " + m.getParameterCount());
            }
        }
        Set<String> told = new TreeSet<>();
        Matcher m = Pattern.compile("(?m)^\\| `(\\w+)\\(([^)]*)\\)` \\|").matcher(page);
        while (m.find()) {
            told.add(m.group(1) + " " + (m.group(2).isEmpty() ? 0 : m.group(2).split(",").length));
        }
        check.isTrue("the calls " + told + " are the face " + face, told.equals(face));
    }

    private static void tests(String page) throws IOException {
        Set<String> there = new TreeSet<>();
        try (Stream<Path> all = Files.list(TESTS)) {
            all.map(f -> f.getFileName().toString()).filter(f -> f.endsWith("Test.java"))
                .forEach(f -> there.add(f.replace(".java", "")));
        }
        Set<String> told = new TreeSet<>();
        Matcher m = Pattern.compile("(?m)^\\| (\\w+Test) \\|").matcher(page);
        while (m.find()) {
            told.add(m.group(1));
        }
        check.isTrue("the tests " + told + " are those there " + there, told.equals(there));
    }

    private static void constants(String page) {
        Matcher m = Pattern.compile("`([A-Z]+)` *\\((-\\d+)\\)").matcher(page.replaceAll("\\s+", " "));
        int many = 0;
        while (m.find()) {
            check.due(m.group(1), constant(m.group(1)), Long.parseLong(m.group(2)));
            many++;
        }
        check.due("constants that are told", many, RoseWheel.class.getFields().length);
    }

    private static long constant(String name) {
        try {
            return RoseWheel.class.getField(name).getInt(null);
        } catch (ReflectiveOperationException e) {
            throw new IllegalStateException("no constant " + name, e);
        }
    }

    private static List<String> blocks(String page, String language) {
        List<String> blocks = new ArrayList<>();
        Matcher m = Pattern.compile("(?s)```" + language + "\n(.*?)```").matcher(page);
        while (m.find()) {
            blocks.add(m.group(1));
        }
        return blocks;
    }

    private static void takeAway(Path room) throws IOException {
        List<Path> all;
        try (Stream<Path> walk = Files.walk(room)) {
            all = walk.sorted(Comparator.reverseOrder()).toList();
        }
        for (Path path : all) {
            Files.delete(path);
        }
    }
}
