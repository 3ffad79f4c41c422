import java.io.IOException;
import java.nio.file.Files;
import java.nio.file.Path;
import java.util.ArrayList;
import java.util.List;
import java.util.regex.Matcher;
import java.util.regex.Pattern;
import java.util.stream.Stream;

/** No sentence of the document's terms and promises is without a test: each stands in a says() of an Edges test. */
public final class SentencesTest {
    private static final Path DOCUMENT = Path.of("../shared/DOC.md"), TESTS = Path.of("src/test/java");
    private static final Pattern SAYS = Pattern.compile("e\\.says\\(\"(.*)\"\\);");
    /** What tells no case: headings, fences, the face (FaceTest's part), names of what follows. */
    private static final String[] NO_CASE = {
        "```java.*?```", "```text", "```", "## The public face", "## Terms", "what later calls answer is free\\.",
        "======== [34]", "KINDS of PEOPLE are over one another:", "MARK of one as if of a KIND", "The constants:",
        "Ahead of the calls .*? the interface says: ---- [a-z, ]+\\.", "## Promise \\d+: (A new object|\\w+)", "`(int|long) \\w+\\([^)]*\\)`:"};
    private static final Check check = new Check("SentencesTest");

    public static void main(String[] args) throws IOException {
        if (Files.isReadable(DOCUMENT)) {
            String document = Files.readString(DOCUMENT).replaceAll("\\s+", " ");
            String promised = document.substring(document.indexOf("======== 1 PANES"), document.indexOf("## Not promised"));
            check.isTrue("no sentence is without a test:" + untested(promised), untested(promised).isEmpty());
        }
        check.end();
    }

    private static String untested(String promised) throws IOException {
        boolean[] told = new boolean[promised.length()];
        for (String words : saidInTests()) {
            for (int at = promised.indexOf(words); at >= 0; at = promised.indexOf(words, at + 1)) {
                mark(told, at, at + words.length());
            }
        }
        for (String pattern : NO_CASE) {
            Matcher m = Pattern.compile(pattern).matcher(promised);
            while (m.find()) {
                mark(told, m.start(), m.end());
            }
        }
        StringBuilder left = new StringBuilder();
        for (int i = 0; i < told.length; i++) {
            left.append(told[i] ? ' ' : promised.charAt(i));
        }
        // what is left between two quotes may be a mark, no word
        return left.toString().matches("[ :;.,]*") ? "" : left.toString().replaceAll(" +", " ");
    }

    private static void mark(boolean[] told, int from, int to) {
        for (int i = from; i < to; i++) {
            told[i] = true;
        }
    }

    private static List<String> saidInTests() throws IOException {
        List<Path> files;
        try (Stream<Path> all = Files.list(TESTS)) {
            files = all.filter(f -> f.getFileName().toString().matches("Edges\\w+Test\\.java")).toList();
        }
        List<String> said = new ArrayList<>();
        for (Path file : files) {
            Matcher m = SAYS.matcher(Files.readString(file));
            while (m.find()) {
                said.add(m.group(1).replace("\\\"", "\""));
            }
        }
        return said;
    }
}
