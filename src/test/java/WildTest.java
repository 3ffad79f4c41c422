import java.lang.reflect.Method;
import java.lang.reflect.Modifier;
import java.util.Arrays;
import java.util.Comparator;

/** No call throws, whatever the numbers and the state; a refused one changes nothing. */
public final class WildTest {
    private static final int[] WILD = {Integer.MIN_VALUE, -1000, -2, -1, 0, 1, 2, 5, 6, 11, 12, 60, 61, 999, 1000, Integer.MAX_VALUE};
    private static final Check check = new Check("WildTest");

    public static void main(String[] args) throws Exception {
        String full = "c0;c1;c2;c3;c4;c5;c0;c1;c2;c3;c4;c5;p0 1;p11 2;p2 3;p3 4;p4 5;p5 1;";
        for (String text : new String[] {"", "c1;", "c1;p0 1;", "k9;d1;c1;c2;c3;p2 1;p0 2;", full}) {
            everyCall(text);
        }
        check.end();
    }

    private static void everyCall(String text) throws Exception {
        Method[] face = Arrays.stream(RoseWheel.class.getDeclaredMethods())
            .filter(m -> Modifier.isPublic(m.getModifiers()))
            .sorted(Comparator.comparing(Method::getName)).toArray(Method[]::new);
        for (Method m : face) {
            int ways = (int) Math.min(Math.pow(WILD.length, m.getParameterCount()), 20000);
            for (int way = 0; way < ways; way++) {
                // a step that shares no divisor with the numbers of WILD goes through all ways mixed
                wildCall(text, m, way * 7919L);
            }
        }
    }

    private static void wildCall(String text, Method m, long way) throws Exception {
        RoseWheel x = busy(text);
        Object[] numbers = new Object[m.getParameterCount()];
        for (int i = 0; i < numbers.length; i++) {
            numbers[i] = WILD[(int) (way % WILD.length)];
            way /= WILD.length;
        }
        String before = Check.picture(x);
        try {
            long got = ((Number) m.invoke(x, numbers)).longValue();
            boolean refused = got == RoseWheel.BAD || got == RoseWheel.STATE || got == RoseWheel.FULL || got == RoseWheel.NO;
            // a MARK may be -1, -2 or -3 without being refused
            if (refused && !(m.getName().equals("mark") && got != RoseWheel.NO)) {
                check.isTrue(m.getName() + Arrays.toString(numbers) + " with '" + text + "' changes nothing", before.equals(Check.picture(x)));
            }
        } catch (java.lang.reflect.InvocationTargetException e) {
            check.isTrue(m.getName() + Arrays.toString(numbers) + " with '" + text + "' threw " + e.getCause(), false);
        }
    }

    private static RoseWheel busy(String text) {
        RoseWheel x = Check.told(text);
        x.spins(9);
        x.keep(0);
        x.goes(0, 1);
        x.passes(3);
        x.saw(0, 1);
        x.hears(9, 20);
        return x;
    }
}
