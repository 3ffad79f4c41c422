/** The boundary cases of what was SEEN and HEARD, and of promises 23 to 29. */
public final class EdgesNotesTest {
    private static final int BAD = Edges.BAD, FULL = Edges.FULL, NONE = Edges.NONE;
    private static final Edges e = new Edges("EdgesNotesTest");

    public static void main(String[] args) {
        seen();
        seenFromNow();
        spins();
        looks();
        heard();
        laws();
        tries();
        sawAsked();
        spunAsked();
        lookAsked();
        hearsAsked();
        lawsAsked();
        tryAsked();
        forgetAsked();
        e.end();
    }

    private static void seen() {
        e.says("SEEN (6 at most): a SPOT had a COLOUR behind a SPIN,");
        e.told("k0;c1;c2;c3;c4;c5;c0;c1;");
        e.due("count(4)", 0);
        for (int n = 1; n <= 6; n++) {
            e.due("saw(0, 2)", n);
        }
        e.allStill(FULL, "saw(0, 2)", "saw(6, 0)");
        e.due("count(4)", 6);
        e.due("spun(0)", 9);
        // the sixth counts as the first does
        e.go("forget()");
        e.times(5, "saw(0, 2)");
        e.due("saw(0, 3)", 6);
        e.due("spun(0)", 0);
        e.go("forget()");
        e.due("saw(0, 2)", 1);
    }

    private static void seenFromNow() {
        e.says("from TURN and HOUR as they are NOW.");
        e.told("k0;c1;c0;c0;c0;c0;c0;c0;");
        e.go("saw(0, 1)");
        e.due("spun(1)", 7);
        e.go("spins(6)");
        e.due("spun(1)", 1);
        e.go("passes(1)");
        e.due("spun(1)", 7);
        e.go("passes(5)");
        e.due("spun(1)", 2);
        e.go("undo()", "undo()", "undo()");
        e.due("spun(1)", 7);
        e.go("covers(1)");
        e.due("spun(1)", 7);
    }

    private static void spins() {
        e.says("SPINS: v (1 .. 60) by which all that was SEEN is so: how many; the least; the greatest; NONE.");
        e.fresh();
        spun(60, 1, 60);
        e.told("k0;c1;c2;c2;c1;c0;c0;c0;");
        spun(60, 1, 60);
        e.go("saw(3, 1)");
        // 4 11 .. 60, and 7 14 .. 56
        spun(17, 4, 60);
        e.go("saw(3, 1)");
        spun(17, 4, 60);
        e.go("saw(4, 2)");
        spun(9, 4, 60);
        e.go("saw(0, 0)");
        spun(9, 4, 60);
        e.go("saw(0, 5)");
        spun(0, NONE, NONE);
        e.go("forget()", "saw(6, 1)", "saw(0, 2)");
        spun(9, 1, 57);
        // by this law the wheel stops 10 on of 12 only by 59, and by that one never 8 on of 10
        e.told("k2;d1;c0;c0;c0;c0;c0;c0;c0;c0;c0;c0;c1;c0;");
        e.go("saw(0, 1)");
        spun(1, 59, 59);
        e.told("k7;d1;c0;c0;c0;c0;c0;c0;c0;c0;c1;c0;");
        e.go("saw(0, 1)");
        spun(0, NONE, NONE);
        e.told("c1;");
        e.go("saw(0, 1)");
        spun(60, 1, 60);
    }

    private static void spun(int many, int least, int greatest) {
        e.still("spun(0)", many);
        e.still("spun(1)", least);
        e.still("spun(2)", greatest);
    }

    private static void looks() {
        e.says("LOOK: the SPOT at which the greatest number of these v by which it has one COLOUR is least, of like ones the lowest; NONE (no such v, no PANES).");
        e.fresh();
        e.still("look()", NONE);
        e.told("c4;");
        e.still("look()", 0);
        e.go("saw(0, 4)");
        e.still("look()", 0);
        e.go("saw(0, 3)");
        e.still("look()", NONE);
        e.told("k0;c1;c1;c1;c2;c2;c0;c0;");
        // ruby is the most everywhere: by 9 + 9 + 8 at SPOT 0, 25 at 1, 24 at 2, then more again
        e.still("look()", 2);
        e.go("spins(3)");
        e.still("look()", 6);
        e.go("passes(1)");
        e.still("look()", 5);
        e.told("k0;c1;c2;c3;c1;c2;c3;");
        e.still("look()", 0);
        e.told("k0;c1;c1;c1;c1;c1;c1;c2;c3;c1;c1;c1;c1;");
        // only 12, 24 .. 60 are left, and tell nothing more anywhere
        e.go("saw(7, 3)");
        e.still("look()", 0);
        // 2, 3, 4 and 8 CLICKS more than round are left: SPOT 2 parts one of them off, 3 and 4 part two
        e.go("forget()", "saw(7, 1)", "saw(6, 1)", "saw(8, 1)", "saw(9, 1)", "saw(0, 1)", "saw(1, 1)");
        e.still("spun(0)", 20);
        e.still("look()", 3);
    }

    private static void heard() {
        e.says("HEARD (6 at most): a SPIN by v (1 .. 60) had c CLICKS (0 .. 999).");
        e.fresh();
        e.due("count(5)", 0);
        for (int n = 1; n <= 6; n++) {
            e.due("hears(60, 382)", n);
        }
        e.allStill(FULL, "hears(60, 382)", "hears(1, 0)");
        e.due("count(5)", 6);
        e.due("laws(0)", 1);
        e.go("forget()");
        e.times(5, "hears(60, 382)");
        e.due("hears(60, 381)", 6);
        e.due("laws(0)", 0);
        e.go("forget()");
        e.due("hears(1, 0)", 1);
        e.due("hears(1, 999)", 2);
        e.due("hears(60, 0)", 3);
        e.due("hears(60, 999)", 4);
        e.allStill(BAD, "hears(0, 0)", "hears(61, 0)", "hears(1, -1)", "hears(1, 1000)");
    }

    private static void laws() {
        e.says("LAWS: twos of KEEPS (0 .. 9) and DRAG (1 .. 9) by which all that was HEARD is so: how many; the first (by 10 times KEEPS and DRAG); NONE.");
        e.fresh();
        laws(90, 1);
        e.go("hears(1, 1)");
        laws(90, 1);
        // KEEPS 0 and 1 .. 5 tenths of 60 are nothing more, whatever DRAG; so are 6 less DRAG 6 .. 9
        e.go("hears(60, 60)");
        laws(13, 1);
        e.go("forget()", "hears(60, 61)");
        laws(1, 15);
        e.go("forget()", "hears(60, 382)");
        laws(1, 91);
        e.go("forget()", "hears(59, 158)");
        laws(1, 99);
        e.go("forget()", "hears(10, 11)");
        laws(8, 21);
        e.go("hears(60, 229)");
        laws(0, NONE);
        e.go("forget()", "hears(1, 0)");
        laws(0, NONE);
        e.go("forget()", "hears(60, 383)");
        laws(0, NONE);
        e.go("forget()", "hears(60, 999)");
        laws(0, NONE);
        e.told("k3;d4;c1;");
        laws(90, 1);
    }

    private static void laws(int many, int first) {
        e.still("laws(0)", many);
        e.still("laws(1)", first);
    }

    private static void tries() {
        e.says("TRY: the v (1 .. 60) at which the greatest number of LAWS by which CLICKS are as many is least, of like ones the least; NONE (no LAWS).");
        e.fresh();
        e.still("tryNext()", 60);
        e.go("hears(60, 60)");
        // the thirteen that are left can't be told from one another
        e.still("tryNext()", 1);
        e.go("forget()", "hears(60, 382)");
        e.still("tryNext()", 1);
        e.go("hears(60, 383)");
        e.still("tryNext()", NONE);
        e.go("forget()", "hears(3, 4)");
        // the LAWS 71 81 91: 1 less than 7 tenths, 8 tenths, 9 tenths of v differ by 7 first
        e.still("tryNext()", 7);
        e.go("forget()", "hears(59, 61)");
        e.still("tryNext()", 40);
        e.go("forget()", "hears(10, 15)");
        // the LAWS 51 and 94 differ as soon as 5 tenths are 2
        e.still("tryNext()", 4);
    }

    private static void sawAsked() {
        e.says("`int saw(int spot, int colour)`: SEEN: how much there is. BAD; FULL.");
        e.told("c1;c2;p0 1;");
        e.allStill(BAD, "saw(-1, 0)", "saw(2, 0)", "saw(0, -1)", "saw(0, 6)", "saw(2147483647, 0)", "saw(0, -2147483648)");
        e.due("saw(0, 0)", 1);
        e.due("saw(1, 5)", 2);
        e.times(4, "saw(0, 1)");
        e.still("saw(0, 1)", FULL);
        e.allStill(BAD, "saw(-1, 0)", "saw(2, 0)", "saw(0, -1)", "saw(0, 6)");
        e.due("count(6)", 0);
        e.fresh();
        e.still("saw(0, 0)", BAD);
    }

    private static void spunAsked() {
        e.says("SPINS: how many (what = 0), the least (1; NONE), the greatest (2; NONE). BAD.");
        e.told("c1;");
        e.allStill(BAD, "spun(-1)", "spun(3)", "spun(2147483647)", "spun(-2147483648)");
        spun(60, 1, 60);
        e.go("saw(0, 2)");
        spun(0, NONE, NONE);
        e.allStill(BAD, "spun(-1)", "spun(3)");
    }

    private static void lookAsked() {
        e.says("`int look()`: LOOK; NONE.");
        e.told("k0;c1;c2;");
        e.still("look()", 0);
        e.go("saw(0, 1)", "saw(1, 2)");
        e.still("look()", 0);
        e.go("saw(1, 1)");
        e.still("look()", NONE);
        e.reads("");
        e.still("look()", NONE);
    }

    private static void hearsAsked() {
        e.says("`int hears(int v, int c)`: HEARD: how much there is. BAD; FULL.");
        e.fresh();
        e.allStill(BAD, "hears(0, 1)", "hears(-1, 1)", "hears(61, 1)", "hears(1, -1)", "hears(1, 1000)", "hears(2147483647, 1)", "hears(1, -2147483648)");
        e.due("hears(1, 0)", 1);
        e.due("hears(60, 999)", 2);
        e.times(4, "hears(1, 1)");
        e.still("hears(1, 1)", FULL);
        e.allStill(BAD, "hears(0, 1)", "hears(61, 1)", "hears(1, -1)", "hears(1, 1000)");
        e.due("count(6)", 0);
    }

    private static void lawsAsked() {
        e.says("LAWS: how many (what = 0), the first (1; NONE). BAD.");
        e.fresh();
        e.allStill(BAD, "laws(-1)", "laws(2)", "laws(2147483647)", "laws(-2147483648)");
        laws(90, 1);
        e.go("hears(1, 2)");
        laws(0, NONE);
        e.allStill(BAD, "laws(-1)", "laws(2)");
    }

    private static void tryAsked() {
        e.says("`int tryNext()`: TRY; NONE.");
        e.told("c1;k9;d9;");
        e.still("tryNext()", 60);
        e.go("hears(1, 2)");
        e.still("tryNext()", NONE);
        e.go("forget()");
        e.still("tryNext()", 60);
    }

    private static void forgetAsked() {
        e.says("`int forget()`: Nothing was SEEN, HEARD: how much both were.");
        e.told("k0;c1;c2;");
        e.still("forget()", 0);
        e.go("saw(0, 5)");
        e.due("forget()", 1);
        e.go("hears(1, 5)");
        e.due("forget()", 1);
        e.times(6, "saw(0, 5)");
        e.times(6, "hears(1, 5)");
        e.due("spun(0)", 0);
        e.due("laws(0)", 0);
        e.due("forget()", 12);
        e.due("count(4)", 0);
        e.due("count(5)", 0);
        e.due("spun(0)", 60);
        e.due("laws(0)", 90);
        e.still("forget()", 0);
    }
}
