/** Counts answers against those that are due, and ends a test as the tests under ../shared do. */
final class Check {
    private final String test;
    private int asked = 0;
    private int wrong = 0;

    Check(String test) {
        this.test = test;
    }

    void due(String call, long got, long want) {
        asked++;
        if (got != want) {
            wrong++;
            System.out.println(test + ": " + call + " answered " + got + ", due is " + want);
        }
    }

    void isTrue(String what, boolean is) {
        due(what, is ? 1 : 0, 1);
    }

    void end() {
        System.out.println(test + ": " + asked + " answers, " + wrong + " wrong");
        if (wrong != 0) {
            System.exit(1);
        }
    }

    static void write(RoseWheel x, String text) {
        for (int i = 0; i < text.length(); i++) {
            x.type(text.charAt(i));
        }
    }

    /** A new wheel, as a text tells that must have no fault. */
    static RoseWheel told(String text) {
        RoseWheel x = new RoseWheel();
        write(x, text);
        int items = x.rose();
        if (items < 0) {
            throw new IllegalStateException("a test's text has a fault: " + text + " answered " + items);
        }
        return x;
    }

    /** All that can be asked of a wheel and changes nothing, as one text. */
    static String picture(RoseWheel x) {
        StringBuilder all = new StringBuilder(dayOf(x));
        for (int what = 0; what < 8; what++) {
            all.append(x.count(what)).append(' ');
        }
        for (int p = 0; p < 12; p++) {
            all.append(x.pane(p)).append(' ');
        }
        for (int what = 0; what < 3; what++) {
            all.append(x.spun(what)).append(' ').append(x.laws(what)).append(' ');
        }
        return all.append(x.look()).append(' ').append(x.tryNext()).append(' ').append(x.trace()).toString();
    }

    /** What a wheel has NOW, and WANT with it. */
    static String dayOf(RoseWheel x) {
        StringBuilder day = new StringBuilder();
        for (int what = 0; what < 7; what++) {
            day.append(x.now(what)).append(' ');
        }
        for (int p = 0; p < 6; p++) {
            for (int what = 0; what < 5; what++) {
                day.append(x.one(p, what)).append(' ');
            }
            for (int q = 0; q < 6; q++) {
                day.append(x.owed(p, q)).append(' ');
            }
        }
        return day.toString();
    }
}
