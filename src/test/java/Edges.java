import java.io.IOException;
import java.lang.reflect.InvocationTargetException;
import java.lang.reflect.Method;
import java.lang.reflect.Modifier;
import java.nio.file.Files;
import java.nio.file.Path;
import java.util.ArrayList;
import java.util.List;
import java.util.Map;
import java.util.TreeMap;

/**
 * Runs of calls told as texts ("goes(0, 3)"), each under the words of the document that it holds to.
 * Words that the document does not have, or that no answer stands under, are a fault of the test.
 */
final class Edges {
    static final int BAD = RoseWheel.BAD, STATE = RoseWheel.STATE, FULL = RoseWheel.FULL;
    static final int NONE = RoseWheel.NONE, NO = RoseWheel.NO;
    private static final Path DOCUMENT = Path.of("../shared/DOC.md");

    private final Check check;
    private final Map<String, Method> face = new TreeMap<>();
    private final String document;
    private final List<String> calls = new ArrayList<>();
    private RoseWheel wheel = new RoseWheel();
    private String words = "";
    private int answers = 0;

    Edges(String test) {
        check = new Check(test);
        document = readDocument();
        for (Method m : RoseWheel.class.getDeclaredMethods()) {
            if (Modifier.isPublic(m.getModifiers())) {
                face.put(m.getName(), m);
            }
        }
    }

    private static String readDocument() {
        try {
            return Files.readString(DOCUMENT).replaceAll("\\s+", " ");
        } catch (IOException e) {
            System.out.println("the document is not there, so its words are not looked up");
            return "";
        }
    }

    /** From here on the calls hold to these words of the document. */
    void says(String next) {
        closeWords();
        words = next;
        answers = 0;
        if (!document.isEmpty()) {
            check.isTrue("the document says '" + words + "'", document.contains(words));
        }
    }

    private void closeWords() {
        if (!words.isEmpty()) {
            check.isTrue("'" + words + "' has answers", answers > 0);
        }
    }

    void end() {
        closeWords();
        check.end();
    }

    /** A new wheel, of which nothing has been asked. */
    void fresh() {
        wheel = new RoseWheel();
        calls.clear();
    }

    /** A new wheel, as a text tells. */
    void told(String text) {
        fresh();
        reads(text);
    }

    /** The same wheel, read anew. */
    void reads(String text) {
        types(text);
        int items = (int) does("rose()");
        check.isTrue("'" + text + "' has no FAULT, but answered " + items, items >= 0);
    }

    void types(String text) {
        for (int i = 0; i < text.length(); i++) {
            does("type(" + (int) text.charAt(i) + ")");
        }
    }

    void times(int many, String call) {
        for (int n = 0; n < many; n++) {
            does(call);
        }
    }

    /** Calls, the answers of which are looked at elsewhere. */
    void go(String... all) {
        for (String call : all) {
            does(call);
        }
    }

    private long does(String call) {
        calls.add(call);
        return answer(wheel, call);
    }

    void due(String call, long want) {
        due(call, does(call), want);
    }

    private void due(String call, long got, long want) {
        answers++;
        check.due("[" + words + "] " + call, got, want);
    }

    /**
     * The call answers as it should, and nothing has changed: refused ones, and those that only ask. The
     * wheel itself is asked too, so that what one call leaves in rows that are used again may show.
     */
    void still(String call, long want) {
        due(call, answer(wheel, call), want);
        RoseWheel without = again();
        RoseWheel with = again();
        due(call, answer(with, call), want);
        due(call + " changes nothing", deep(with).equals(deep(without)) ? 1 : 0, 1);
    }

    /** The deed is done and undone, and all is as ahead of it. */
    void undone(String deed) {
        RoseWheel before = again();
        RoseWheel behind = again();
        long got = answer(behind, deed);
        due(deed + " is not refused, but answered " + got, got >= 0 ? 1 : 0, 1);
        behind.undo();
        due(deed + " and undo() change nothing", deep(behind).equals(deep(before)) ? 1 : 0, 1);
    }

    /** As still(), for each of the calls. */
    void allStill(long want, String... all) {
        for (String call : all) {
            still(call, want);
        }
    }

    /** What a text answers on a new wheel; refused, it stays as it was typed. */
    void text(String text, long want) {
        fresh();
        types(text);
        if (want < 0) {
            still("rose()", want);
            due("count(7)", text.length());
        } else {
            due("rose()", want);
            due("count(7)", 0);
        }
    }

    private RoseWheel again() {
        RoseWheel x = new RoseWheel();
        for (String call : calls) {
            answer(x, call);
        }
        return x;
    }

    private long answer(RoseWheel x, String call) {
        Method m = face.get(call.substring(0, call.indexOf('(')));
        String inside = call.substring(call.indexOf('(') + 1, call.indexOf(')'));
        String[] told = inside.isEmpty() ? new String[0] : inside.split(", *");
        Object[] numbers = new Object[told.length];
        for (int i = 0; i < told.length; i++) {
            numbers[i] = Integer.parseInt(told[i]);
        }
        try {
            return ((Number) m.invoke(x, numbers)).longValue();
        } catch (InvocationTargetException | IllegalAccessException e) {
            throw new IllegalStateException(call + " threw " + e.getCause(), e);
        }
    }

    /** All that can be learnt of a wheel, what may be UNDONE, IMAGES and THE TEXT too; it is used up by that. */
    private static String deep(RoseWheel x) {
        StringBuilder all = new StringBuilder(Check.picture(x));
        past(x, all);
        for (int image = 0; image < 2; image++) {
            all.append("\nback ").append(x.back(image));
            past(x, all);
        }
        all.append("\nrose ").append(x.rose());
        return all.append(Check.picture(x)).toString();
    }

    private static void past(RoseWheel x, StringBuilder all) {
        int left = 0;
        for (int n = 0; n <= 11 && left >= 0; n++) {
            all.append('\n').append(Check.dayOf(x));
            left = x.undo();
            all.append(" undo ").append(left);
        }
    }
}
