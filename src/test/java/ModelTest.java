import java.lang.reflect.Method;
import java.lang.reflect.Modifier;
import java.util.Arrays;
import java.util.Comparator;
import java.util.Random;

/** Runs of 512 calls, by chance but the same each time, answered by the class and by the model. */
public final class ModelTest {
    private static final int RUNS = 1000, CALLS = 512;
    private static final String[] DEEDS = {"spins", "spins", "spins", "goes", "passes", "covers", "forgives", "undo"};
    private static final Check check = new Check("ModelTest");

    private final Random chance;
    private final Method[] face;
    private final RoseWheel wheel = new RoseWheel();
    private final Model model = new Model();
    private final String run;
    private int calls = 0;

    private ModelTest(int seed) {
        chance = new Random(seed);
        run = "run " + seed + ": ";
        face = publicMethods();
    }

    /** In the order of their names, for Java tells them in no order. */
    private static Method[] publicMethods() {
        return Arrays.stream(RoseWheel.class.getDeclaredMethods())
            .filter(m -> Modifier.isPublic(m.getModifiers()))
            .sorted(Comparator.comparing(Method::getName))
            .toArray(Method[]::new);
    }

    public static void main(String[] args) throws Exception {
        for (int seed = 1; seed <= RUNS; seed++) {
            new ModelTest(seed).play();
        }
        check.end();
    }

    private void play() throws Exception {
        if (chance.nextInt(8) != 0) {
            read();
        }
        while (calls < CALLS) {
            int what = chance.nextInt(100);
            if (what < 45) {
                byName(DEEDS[chance.nextInt(DEEDS.length)]);
            } else if (what < 46 && CALLS - calls > 160) {
                read();
            } else if (what < 48) {
                byName("saw");
            } else if (what < 50) {
                hearTruth();
            } else {
                any();
            }
        }
    }

    private void any() throws Exception {
        Method m = face[chance.nextInt(face.length)];
        // a text by chance alone has a fault nearly always: that is read()'s part
        if (!m.getName().equals("rose") || chance.nextInt(4) == 0) {
            ask(m, numbers(m.getParameterCount()));
        }
    }

    private void byName(String name) throws Exception {
        for (Method m : face) {
            if (m.getName().equals(name)) {
                ask(m, numbers(m.getParameterCount()));
            }
        }
    }

    private void hearTruth() throws Exception {
        int v = 1 + chance.nextInt(60);
        long clicks = model.call("clicks", new int[] {v});
        for (Method m : face) {
            if (m.getName().equals("hears")) {
                ask(m, new int[] {v, (int) clicks});
            }
        }
    }

    /** Mostly numbers that may be; now and then ones at the edge or far beyond it. */
    private int[] numbers(int many) {
        int[] numbers = new int[many];
        int[] wild = {-1, -2, 0, 12, 60, 61, 999, 1000, 255, 256, Integer.MAX_VALUE, Integer.MIN_VALUE};
        for (int i = 0; i < many; i++) {
            int how = chance.nextInt(40);
            numbers[i] = how == 0 ? wild[chance.nextInt(wild.length)] : chance.nextInt(how < 20 ? 6 : how < 30 ? 12 : 61);
            if (i == many - 1 && many > 2) {
                numbers[i] = how == 0 ? numbers[i] : chance.nextInt(2);
            }
        }
        return numbers;
    }

    private void ask(Method m, int[] numbers) throws Exception {
        if (calls >= CALLS) {
            return;
        }
        calls++;
        Object[] boxed = Arrays.stream(numbers).boxed().toArray();
        long got = ((Number) m.invoke(wheel, boxed)).longValue();
        check.due(run + "call " + calls + " " + m.getName() + Arrays.toString(numbers), got, model.call(m.getName(), numbers));
    }

    private void read() throws Exception {
        ask(RoseWheel.class.getMethod("clear"), new int[0]);
        String text = text();
        for (int i = 0; i < text.length(); i++) {
            ask(RoseWheel.class.getMethod("type", int.class), new int[] {text.charAt(i)});
        }
        ask(RoseWheel.class.getMethod("rose"), new int[0]);
    }

    private String text() {
        StringBuilder text = new StringBuilder();
        int panes = 1 + chance.nextInt(12);
        int colours = 2 + chance.nextInt(5);
        for (int p = 0; p < panes; p++) {
            item(text, "c" + blank(3) + chance.nextInt(colours));
        }
        if (chance.nextBoolean()) {
            item(text, "k" + blank(3) + chance.nextInt(10));
        }
        if (chance.nextBoolean()) {
            item(text, "d" + blank(3) + (1 + chance.nextInt(9)));
        }
        int people = Math.min(panes, chance.nextInt(3) == 0 ? 6 : chance.nextInt(7));
        int from = chance.nextInt(panes);
        for (int p = 0; p < people; p++) {
            item(text, "p" + blank(3) + (from + p) % panes + " " + blank(4) + (1 + chance.nextInt(5)));
        }
        for (int faults = chance.nextInt(6) - 3; faults > 0; faults--) {
            spoil(text);
        }
        return text.length() > 150 ? text.substring(0, 150) : text.toString();
    }

    private void item(StringBuilder text, String item) {
        text.append(item).append(blank(6)).append(';').append(blank(5));
    }

    private String blank(int seldom) {
        return chance.nextInt(seldom) == 0 ? " " : "";
    }

    private void spoil(StringBuilder text) {
        String signs = "ckdp;;  0123456789xC:`{/" + (char) 0 + (char) 255;
        char sign = signs.charAt(chance.nextInt(signs.length()));
        int place = chance.nextInt(text.length());
        int how = chance.nextInt(4);
        if (how == 0) {
            text.insert(place, sign);
        } else if (how == 1) {
            text.setCharAt(place, sign);
        } else if (how == 2 && text.length() > 1) {
            text.deleteCharAt(place);
        } else {
            text.setLength(place + 1);
        }
    }
}
