/** Promises 1 to 7: a new object, the text, what it tells. */
public final class WindowTest {
    private static final Check check = new Check("WindowTest");
    private static final String TWELVE = "c0;c1;c2;c3;c4;c5;c0;c1;c2;c3;c4;c5;";
    private static final String SIX = "p0 1;p1 2;p2 3;p3 4;p4 5;p5 1;";

    public static void main(String[] args) {
        newObject();
        typing();
        clearing();
        goodTexts();
        faultsOfTokens();
        faultsOfPanesAndLaw();
        faultsOfPeople();
        readingAnew();
        readingAnewWhenMuchWasDone();
        refusedReading();
        panes();
        ones();
        debts();
        check.end();
    }

    private static void newObject() {
        RoseWheel x = new RoseWheel();
        int[] counts = {0, 8, 1, 0, 0, 0, 0, 0};
        for (int what = 0; what < counts.length; what++) {
            check.due("new: count(" + what + ")", x.count(what), counts[what]);
        }
        int[] nows = {0, 0, 0, 0, 0, RoseWheel.NONE, 0};
        for (int what = 0; what < nows.length; what++) {
            check.due("new: now(" + what + ")", x.now(what), nows[what]);
        }
        check.due("new: trace()", x.trace(), 0);
        check.due("new: undo()", x.undo(), RoseWheel.STATE);
        check.due("new: back(0)", x.back(0), RoseWheel.STATE);
        check.due("new: back(1)", x.back(1), RoseWheel.STATE);
        check.due("new: clear()", x.clear(), 0);
        check.due("new: forget()", x.forget(), 0);
    }

    private static void typing() {
        RoseWheel x = new RoseWheel();
        check.due("type(0)", x.type(0), 1);
        check.due("type(255)", x.type(255), 2);
        check.due("type(256)", x.type(256), RoseWheel.BAD);
        check.due("type(-1)", x.type(-1), RoseWheel.BAD);
        check.due("count(7)", x.count(7), 2);
        for (int n = 3; n <= 150; n++) {
            check.due("type no. " + n, x.type(32), n);
        }
        check.due("151st", x.type(32), RoseWheel.FULL);
        check.due("BAD is ahead of FULL", x.type(256), RoseWheel.BAD);
        check.due("count(7)", x.count(7), 150);
        check.due("clear()", x.clear(), 150);
        check.due("type behind clear", x.type(99), 1);
    }

    private static void clearing() {
        RoseWheel x = Check.told("c1;p0 2;");
        Check.write(x, "c5;");
        check.due("clear()", x.clear(), 3);
        check.due("clear() again", x.clear(), 0);
        check.due("rose() of nothing", x.rose(), 0);
        RoseWheel y = Check.told("c1;p0 2;");
        Check.write(y, "x");
        y.clear();
        check.due("clear leaves PANES", y.count(0), 1);
        check.due("clear leaves PEOPLE", y.count(3), 1);
    }

    private static void text(String text, int want) {
        RoseWheel x = new RoseWheel();
        Check.write(x, text);
        check.due("rose() of '" + text + "'", x.rose(), want);
        check.due("text behind '" + text + "'", x.count(7), want < 0 ? text.length() : 0);
    }

    private static void goodTexts() {
        text("", 0);
        text("     ", 0);
        text("c0;", 1);
        text("c5;", 1);
        text("  c  1  ;  ", 1);
        text("c1;c1;", 2);
        text("k0;", 1);
        text("k9;", 1);
        text("d1;", 1);
        text("d9;k3;", 2);
        text("c0;p0 1;", 2);
        text("c0;p0 5;", 2);
        text("c0;p0 1;c0;p1 1;", 4);
        text("c0;c0;p1 1;p0 2;", 4);
        text(TWELVE + "p11 1;p10 2;", 14);
        text(TWELVE + SIX, 18);
        text(TWELVE + SIX + "k1;d1;", 20);
        text(TWELVE + SIX + "k1;d1;" + " ".repeat(150 - 72), 20);
    }

    private static void faultsOfTokens() {
        text("C1;", -10);
        text("x", -10);
        text("xc1;", -10);
        text("cc", -10);
        text("ca1;", -10);
        text("cz1;", -10);
        text("ac1;", -10);
        text("zc1;", -10);
        text("1;", -10);
        text(";", -10);
        text("c", -11);
        text("c   ", -14);
        text("c1", -12);
        text("c1 ", -13);
        text("c;", -11);
        text("c1;;", -13);
        text("c1 2;", -13);
        text("c1c2;", -12);
        text("c c1;", -12);
        text("c-1;", -11);
        text("c1\t;", -12);
        text("c1;\n", -13);
        text("c1;" + (char) 0, -13);
        text("c1;" + (char) 255, -13);
        text("{1;", -10);
        text("`1;", -10);
        text("c/;", -11);
        text("c:;", -11);
        text("c1:", -12);
        text("c01;", -11);
        text("c00;", -11);
        text("c99;", -11);
        text("c100;", -11);
        text("c4294967297;", -11);
        text("c" + "9".repeat(149), -11);
        text("c18446744073709551617;", -11);
        text("c1;" + " ".repeat(147), 1);
        text("c1;" + " ".repeat(146) + "c", -160);
        text("c1;" + " ".repeat(146) + "x", -159);
    }

    private static void faultsOfPanesAndLaw() {
        text("c6;", -11);
        text("k10;", -11);
        text("d0;", -11);
        text("d10;", -11);
        text("k1;k1;", -13);
        text("d1;d1;", -13);
        text("k1;d1;k", -16);
        text("d1;k1;d", -16);
        text("k 8 ; k", -16);
        text(TWELVE + "c1;", -46);
        text(TWELVE + "c", -46);
        text(TWELVE + "k8;c", -49);
    }

    private static void faultsOfPeople() {
        text("p0 1;", -11);
        text("p", -11);
        text("c0;p1 1;", -14);
        text("c0;p1 1;c0;", -14);
        text("c0;p0 0;", -16);
        text("c0;p0 6;", -16);
        text("c0;p01;", -14);
        text("c0;p0;", -15);
        text("c0;p0", -15);
        text("c0;p0 1", -17);
        text("c0;p0 1 1;", -18);
        text("c0;p0 1;p0 1;", -19);
        text("c0;c0;p1 1;p1 2;", -22);
        text(TWELVE + "p12 1;", -47);
        text(TWELVE + SIX + "p6 1;", -76);
        text(TWELVE + SIX + "p", -76);
    }

    private static void readingAnew() {
        RoseWheel x = Check.told("c1;c2;c3;k0;d9;p0 1;p1 2;p2 3;");
        x.spins(3);
        x.passes(1);
        x.covers(1);
        x.saw(0, 1);
        x.hears(1, 1);
        x.keep(0);
        x.keep(1);
        x.mark(0, 0);
        Check.write(x, "c1;c2;p1 4;");
        check.due("rose() anew", x.rose(), 3);
        int[] counts = {2, 8, 1, 1, 0, 0, 0, 0};
        for (int what = 0; what < counts.length; what++) {
            check.due("anew: count(" + what + ")", x.count(what), counts[what]);
        }
        int[] nows = {0, 0, 0, 0, 0, 2, 0};
        for (int what = 0; what < nows.length; what++) {
            check.due("anew: now(" + what + ")", x.now(what), nows[what]);
        }
        check.due("anew: one(0, 0)", x.one(0, 0), 1);
        check.due("anew: one(0, 1)", x.one(0, 1), 4);
        check.due("anew: one(0, 3)", x.one(0, 3), 0);
        check.due("anew: one(1, 0)", x.one(1, 0), RoseWheel.BAD);
        check.due("anew: back(0)", x.back(0), RoseWheel.STATE);
        check.due("anew: back(1)", x.back(1), RoseWheel.STATE);
        check.due("anew: trace() is not told of", x.trace(), 1);
        check.due("rose() of an empty text", x.rose(), 0);
        check.due("no PANES then", x.count(0), 0);
        check.due("nobody then", x.count(3), 0);
        check.due("KEEPS then", x.count(1), 8);
        check.due("DRAG then", x.count(2), 1);
    }

    private static void readingAnewWhenMuchWasDone() {
        RoseWheel x = Check.told("k0;c1;c2;c3;p0 1;p1 2;p2 3;");
        for (int n = 1; n <= 12; n++) {
            x.spins(4);
            x.passes(1);
        }
        x.covers(1);
        Check.write(x, "c1;c2;c3;p0 1;p1 2;p2 3;");
        x.rose();
        for (int what = 0; what <= 4; what++) {
            check.due("now(" + what + ") is as at first", x.now(what), 0);
        }
        check.due("PATIENCE is as at first", x.one(0, 3) + x.one(1, 3) + x.one(2, 3), 0);
        check.due("nothing may be UNDONE", x.undo(), RoseWheel.STATE);
    }

    private static void refusedReading() {
        RoseWheel x = Check.told("c1;c2;c3;k0;d9;p0 1;p1 2;p2 3;");
        x.spins(3);
        x.saw(0, 1);
        x.hears(1, 1);
        x.keep(1);
        Check.write(x, "c4;k3;d3;p0 5;c6");
        String before = Check.picture(x);
        check.due("rose() with a FAULT", x.rose(), -25);
        check.isTrue("a FAULT changes nothing", before.equals(Check.picture(x)));
        check.due("nor IMAGES", x.back(1), 1);
        check.due("the text is still there", x.clear(), 16);
    }

    private static void panes() {
        RoseWheel x = Check.told("c5;c0;c3;");
        check.due("pane(0)", x.pane(0), 5);
        check.due("pane(1)", x.pane(1), 0);
        check.due("pane(2)", x.pane(2), 3);
        check.due("pane(3)", x.pane(3), RoseWheel.BAD);
        check.due("pane(-1)", x.pane(-1), RoseWheel.BAD);
        check.due("pane(0) without PANES", new RoseWheel().pane(0), RoseWheel.BAD);
        x.passes(1);
        check.due("a PANE is not moved by HOURS", x.pane(0), 5);
    }

    private static void ones() {
        RoseWheel x = Check.told("k0;c1;c2;c3;c2;p0 4;p1 5;p3 1;");
        x.spins(4);
        check.due("one(0, 0)", x.one(0, 0), 0);
        check.due("one(2, 0)", x.one(2, 0), 3);
        check.due("one(1, 1)", x.one(1, 1), 5);
        check.due("one(2, 2)", x.one(2, 2), 2);
        check.due("one(0, 4), by two of them", x.one(0, 4), 2);
        check.due("one(1, 4)", x.one(1, 4), 0);
        x.goes(0, 2);
        check.due("one(0, 2) in green", x.one(0, 2), 3);
        check.due("one(0, 3) is not by going", x.one(0, 3), 0);
        x.spins(4);
        x.spins(8);
        check.due("one(0, 3)", x.one(0, 3), 2);
        x.passes(1);
        check.due("one(0, 2) an HOUR on", x.one(0, 2), 2);
        x.covers(1);
        check.due("one(0, 2) under the CLOUD", x.one(0, 2), 0);
        check.due("one(0, 5)", x.one(0, 5), RoseWheel.BAD);
        check.due("one(0, -1)", x.one(0, -1), RoseWheel.BAD);
        check.due("one(3, 0)", x.one(3, 0), RoseWheel.BAD);
        check.due("one(-1, 0)", x.one(-1, 0), RoseWheel.BAD);
    }

    private static void debts() {
        RoseWheel x = Check.told("k0;c1;c2;p0 4;p1 5;");
        x.spins(2);
        x.spins(2);
        check.due("owed(0, 1)", x.owed(0, 1), 2);
        check.due("owed(1, 0)", x.owed(1, 0), 0);
        check.due("owed(0, 0)", x.owed(0, 0), RoseWheel.BAD);
        check.due("owed(0, 2)", x.owed(0, 2), RoseWheel.BAD);
        check.due("owed(2, 0)", x.owed(2, 0), RoseWheel.BAD);
        check.due("owed(-1, 0)", x.owed(-1, 0), RoseWheel.BAD);
        check.due("owed(0, -1)", x.owed(0, -1), RoseWheel.BAD);
    }
}
