/** Promises 30 to 34: marks by kinds, images, counts, the trace. */
public final class KindsImagesTest {
    private static final int BAD = RoseWheel.BAD, STATE = RoseWheel.STATE, NO = RoseWheel.NO;
    private static final Check check = new Check("KindsImagesTest");

    public static void main(String[] args) {
        marks();
        marksRefused();
        images();
        imagesKeepWhatMayBeUndone();
        imagesKeepNothingElse();
        counts();
        check.end();
    }

    private static void marks() {
        RoseWheel x = Check.told("k0;c4;c0;c3;c5;p0 1;p2 1;p3 1;");
        x.spins(4);
        x.spins(4);
        // 1 stands on SPOT 2 in green, has PATIENCE 2; there were 2 FEASTS
        mark(x, 0, 1, 3, 1);
        mark(x, 1, 1, 5, 11);
        mark(x, 2, 1, 1, 101);
        mark(x, 3, 1, 10, 1011);
        mark(x, 4, 1, 2, 10101);
        mark(x, 5, 1, 5, 100001);
        // 2 stands on SPOT 3 in violet, has no PATIENCE
        mark(x, 3, 2, 10, 1011);
        mark(x, 2, 2, 2, 101);
        mark(x, 4, 2, 4, 10101);
        x.covers(1);
        mark(x, 0, 2, 0, 1);
        mark(x, 2, 2, -3, 101);
        mark(x, 4, 2, -1, 10101);
        mark(x, 1, 1, 2, 11);
        long before = x.trace();
        x.undo();
        x.keep(0);
        x.back(0);
        x.clear();
        check.due("trace() is kept", x.trace(), before);
    }

    private static void mark(RoseWheel x, int kind, int p, int want, int traced) {
        long before = x.trace();
        check.due("mark(" + kind + ", " + p + ")", x.mark(kind, p), want);
        check.due("trace of mark(" + kind + ", " + p + ")", x.trace() - before, traced);
    }

    private static void marksRefused() {
        RoseWheel x = Check.told("c1;p0 1;");
        check.due("mark(6, 0)", x.mark(6, 0), NO);
        check.due("mark(-1, 0)", x.mark(-1, 0), NO);
        check.due("mark(0, 1)", x.mark(0, 1), NO);
        check.due("mark(0, -1)", x.mark(0, -1), NO);
        check.due("mark(0, 0) of nobody", new RoseWheel().mark(0, 0), NO);
        check.due("trace()", x.trace(), 0);
    }

    private static void images() {
        RoseWheel x = Check.told("k0;c1;c2;c3;c4;p0 1;p1 2;p2 3;");
        check.due("keep(2)", x.keep(2), BAD);
        check.due("keep(-1)", x.keep(-1), BAD);
        check.due("back(2)", x.back(2), BAD);
        check.due("back(-1)", x.back(-1), BAD);
        check.due("back(0), none", x.back(0), STATE);
        x.spins(4);
        check.due("keep(0)", x.keep(0), 1);
        check.due("back(1), none", x.back(1), STATE);
        String first = Check.picture(x);
        x.spins(5);
        x.goes(1, 3);
        x.passes(2);
        x.covers(1);
        x.forgives(0, 1);
        check.due("keep(1)", x.keep(1), 2);
        String second = Check.picture(x);
        check.due("back(0)", x.back(0), 1);
        check.isTrue("all is as IMAGE 0", first.equals(Check.picture(x)));
        check.due("back(1)", x.back(1), 2);
        check.isTrue("all is as IMAGE 1", second.equals(Check.picture(x)));
        x.spins(1);
        check.due("back(1) again", x.back(1), 2);
        check.isTrue("what is done later is not in it", second.equals(Check.picture(x)));
        x.back(0);
        check.due("keep(1) anew", x.keep(1), 1);
        x.spins(1);
        x.back(1);
        check.isTrue("IMAGE 1 is as it was kept last", first.equals(Check.picture(x)));
    }

    private static void imagesKeepWhatMayBeUndone() {
        RoseWheel x = Check.told("c1;c2;c3;c4;c5;");
        x.passes(1);
        x.passes(1);
        x.keep(0);
        for (int n = 0; n < 12; n++) {
            x.passes(4);
        }
        check.due("ten to undo", x.count(6), 10);
        x.keep(1);
        x.back(0);
        check.due("two to undo", x.count(6), 2);
        check.due("undo()", x.undo(), 1);
        check.due("HOUR 1", x.now(1), 1);
        check.due("undo()", x.undo(), 0);
        check.due("HOUR 0", x.now(1), 0);
        check.due("undo(), none", x.undo(), STATE);
        x.back(1);
        check.due("undo()", x.undo(), 9);
        check.due("HOUR 2 and 11 * 4", x.now(1), 1);
        check.due("back(0) when much was undone", x.back(0), 0);
        check.due("HOUR 2", x.now(1), 2);
    }

    private static void imagesKeepNothingElse() {
        RoseWheel x = Check.told("c1;c2;p0 1;");
        x.saw(0, 1);
        x.keep(0);
        x.saw(1, 1);
        x.hears(1, 1);
        x.type(99);
        x.back(0);
        check.due("SEEN stays", x.count(4), 2);
        check.due("HEARD stays", x.count(5), 1);
        check.due("THE TEXT stays", x.count(7), 1);
        check.due("an IMAGE is no deed", x.count(6), 0);
        RoseWheel y = new RoseWheel();
        check.due("keep(0) without PANES", y.keep(0), 0);
        y.covers(1);
        check.due("back(0) without PANES", y.back(0), 0);
        check.due("no CLOUD then", y.now(2), 0);
    }

    private static void counts() {
        RoseWheel x = Check.told("c1;c2;c3;k7;d6;p0 1;p1 1;");
        x.saw(0, 1);
        x.hears(1, 1);
        x.hears(1, 1);
        x.passes(1);
        x.passes(1);
        x.passes(1);
        Check.write(x, "abcd");
        int[] wants = {3, 7, 6, 2, 1, 2, 3, 4};
        for (int what = 0; what < wants.length; what++) {
            check.due("count(" + what + ")", x.count(what), wants[what]);
        }
        check.due("count(8)", x.count(8), BAD);
        check.due("count(-1)", x.count(-1), BAD);
    }
}
