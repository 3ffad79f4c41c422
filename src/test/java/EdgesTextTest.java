/** The boundary cases of the document's part 1 and of promises 1 to 7. */
public final class EdgesTextTest {
    private static final int BAD = Edges.BAD, STATE = Edges.STATE, FULL = Edges.FULL, NONE = Edges.NONE, NO = Edges.NO;
    private static final String TWELVE = "c0;c1;c2;c3;c4;c5;c0;c1;c2;c3;c4;c5;";
    private static final String SIX = "p0 1;p1 2;p2 3;p3 4;p4 5;p11 1;";
    private static final Edges e = new Edges("EdgesTextTest");

    public static void main(String[] args) {
        panesAndColours();
        spots();
        law();
        people();
        bytesAndBlanks();
        items();
        toldOnce();
        spotsToldAhead();
        letters();
        numbers();
        faultsThatCannotStandThere();
        theFirstFault();
        everyByte();
        endedTooEarly();
        aNewObject();
        typing();
        clearing();
        reading();
        readAnew();
        panesAsked();
        onesAsked();
        owedAsked();
        e.end();
    }

    private static void panesAndColours() {
        e.says("======== 1 PANES 0 ..");
        e.text("", 0);
        e.due("count(0)", 0);
        e.text("k3;d2;", 2);
        e.due("count(0)", 0);
        e.text("c4;", 1);
        e.due("count(0)", 1);
        e.says("(12 at most): COLOUR (0 lead, 1 ruby, 2 blue, 3 green, 4 gold, 5 violet).");
        e.text("c0;c1;c2;c3;c4;c5;c0;c1;c2;c3;c4;", 11);
        e.due("count(0)", 11);
        e.text(TWELVE, 12);
        e.due("count(0)", 12);
        for (int p = 0; p < 12; p++) {
            e.due("pane(" + p + ")", p % 6);
        }
        e.text(TWELVE + "c0;", -10 - 36);
        e.text("c6;", -11);
        e.told("k0;" + TWELVE + "p0 1;");
        int[] far = {0, 1, 2, 3, 2, 1};
        for (int colour = 0; colour <= 5; colour++) {
            e.still("speeds(0, " + colour + ", 0)", 10);
            e.still("steps(0, " + colour + ", 12, 0)", far[colour]);
            e.still("chair(" + colour + ", 1)", 10);
            e.still("odds(0, " + colour + ", 60, 0, 1)", 6);
        }
        e.allStill(BAD, "speeds(0, -1, 0)", "speeds(0, 6, 0)", "steps(0, -1, 1, 0)", "steps(0, 6, 1, 0)",
            "chair(-1, 0)", "chair(6, 0)", "odds(0, -1, 1, 0, 0)", "odds(0, 6, 1, 0, 0)", "saw(0, -1)", "saw(0, 6)");
        e.due("saw(0, 0)", 1);
        e.due("saw(0, 5)", 2);
    }

    private static void spots() {
        e.says("SPOTS 0 .. as many as PANES.");
        for (int panes = 1; panes <= 12; panes += 11) {
            int last = panes - 1;
            e.told("k0;" + TWELVE.substring(0, 3 * panes));
            e.still("shade(0, 60)", 0);
            e.still("shade(" + last + ", 60)", last % 6);
            e.still("speeds(" + last + ", 5, 0)", panes == 1 ? 0 : 10);
            e.still("odds(" + last + ", " + last % 6 + ", 60, 0, 1)", panes == 1 ? 1 : 6);
            e.allStill(BAD, "shade(-1, 60)", "shade(" + panes + ", 60)", "speeds(-1, 5, 0)", "speeds(" + panes + ", 5, 0)",
                "odds(-1, 5, 60, 0, 1)", "odds(" + panes + ", 5, 60, 0, 1)", "saw(-1, 5)", "saw(" + panes + ", 5)");
            e.due("saw(0, 0)", 1);
            e.due("saw(" + last + ", 0)", 2);
        }
        e.told(TWELVE + "p3 1;");
        e.allStill(BAD, "goes(0, -1)", "goes(0, 12)");
        e.due("goes(0, 11)", 3);
        e.due("goes(0, 0)", 11);
        e.fresh();
        e.allStill(BAD, "shade(0, 60)", "speeds(0, 5, 0)", "odds(0, 5, 60, 0, 1)", "saw(0, 5)", "goes(0, 0)");
    }

    private static void law() {
        e.says("KEEPS (0 .. 9 tenths; 8 at first), DRAG (1 .. 9; 1 at first).");
        e.fresh();
        e.due("count(1)", 8);
        e.due("count(2)", 1);
        for (int n = 0; n <= 9; n++) {
            e.text("k" + n + ";", 1);
            e.due("count(1)", n);
            e.due("count(2)", 1);
        }
        for (int n = 1; n <= 9; n++) {
            e.text("d" + n + ";", 1);
            e.due("count(2)", n);
            e.due("count(1)", 8);
        }
        e.text("k10;", -11);
        e.text("d0;", -11);
        e.text("d10;", -11);
        // as at first again by each text that does not tell them, not only by the next
        e.told("k3;d4;");
        for (int n = 1; n <= 3; n++) {
            e.reads("c1;");
            e.due("count(1)", 8);
            e.due("count(2)", 1);
        }
        e.told("k3;d4;");
        e.types("k5;d6;x");
        e.still("rose()", -16);
        e.go("clear()");
        e.reads("c1;");
        e.due("count(1)", 8);
        e.due("count(2)", 1);
    }

    private static void people() {
        e.says("PEOPLE 0 .. (6 at most, no more than SPOTS): on a SPOT, one at most on each; WANT (a COLOUR 1 .. 5).");
        e.text(TWELVE, 12);
        e.due("count(3)", 0);
        e.text(TWELVE + SIX, 18);
        e.due("count(3)", 6);
        e.due("one(5, 0)", 11);
        e.still("one(6, 0)", BAD);
        e.text(TWELVE + SIX + "p5 1;", -10 - 67);
        e.text("c0;p0 1;", 2);
        e.due("count(3)", 1);
        e.text("c0;p0 1;p1 1;", -10 - 9);
        e.text("c0;p0 1;p0 1;", -10 - 9);
        e.text("c0;c0;p1 1;p0 1;", 4);
        e.due("one(0, 0)", 1);
        e.due("one(1, 0)", 0);
        for (int want = 1; want <= 5; want++) {
            e.text("c0;p0 " + want + ";", 2);
            e.due("one(0, 1)", want);
        }
        e.text("c0;p0 0;", -10 - 6);
        e.text("c0;p0 6;", -10 - 6);
    }

    private static void bytesAndBlanks() {
        e.says("They are a text (150 bytes at most), read byte by byte, blanks (32) between TOKENS;");
        e.text("c1;" + " ".repeat(147), 1);
        e.text(" ".repeat(147) + "c1;", 1);
        e.text("c" + " ".repeat(147) + "1;", 1);
        e.text("c1" + " ".repeat(147) + ";", 1);
        e.text(" ".repeat(150), 0);
        e.text("   c   1   ;   k   2   ;   p   0   3   ;   ", 3);
        e.text("c1;k2;p0 3;", 3);
        for (int other : new int[] {0, 9, 10, 13, 31, 33, 160, 255}) {
            e.text("c" + (char) other + "1;", -11);
        }
        e.told("c1;");
        e.types(TWELVE + SIX + "k9;d9;" + " ".repeat(150 - 73));
        e.still("type(32)", FULL);
        e.due("rose()", 20);
        e.due("count(1)", 9);
        e.due("count(3)", 6);
    }

    private static void items() {
        e.says("ITEMS, each letters and what is told, ended by ; :");
        e.text("c1;", 1);
        e.text("c1", -12);
        e.text("c1;c2", -10 - 5);
        e.text("c1 c2;", -10 - 3);
        e.text("c1;;", -10 - 3);
        e.text(";c1;", -10);
        e.text("c;", -11);
        e.text("k;", -11);
        e.text("d;", -11);
        e.text("c0;p;", -10 - 4);
        e.text("c0;p0;", -10 - 5);
        e.text("c1 1;", -10 - 3);
        e.text("k1 1;", -10 - 3);
        e.text("d1 1;", -10 - 3);
        e.text("c0;p0 1 1;", -10 - 8);
        e.text("1c;", -10);
        e.says("c C (the next PANE) ;");
        e.text("c5;c0;", 2);
        e.due("pane(0)", 5);
        e.due("pane(1)", 0);
        e.still("pane(2)", BAD);
    }

    private static void toldOnce() {
        e.says("k N (KEEPS), d N (DRAG; once at most each) ;");
        e.text("k0;d1;", 2);
        e.due("count(1)", 0);
        e.due("count(2)", 1);
        e.text("d9;c0;k9;", 3);
        e.due("count(1)", 9);
        e.due("count(2)", 9);
        e.text("k8;k8;", -10 - 3);
        e.text("k0;c1;k", -10 - 6);
        e.text("d1;d1;", -10 - 3);
        e.text("d9;c1;d", -10 - 6);
        e.told("k1;d2;");
        e.types("k3;d4;");
        e.due("rose()", 2);
        e.due("count(1)", 3);
        e.due("count(2)", 4);
    }

    private static void spotsToldAhead() {
        e.says("p S W (the next of PEOPLE: a SPOT that there is by PANES told ahead, that nobody has; WANT).");
        e.text("p0 1;", -11);
        e.text("p0 1;c0;", -11);
        e.text("c0;p0 1;", 2);
        e.text("c0;p1 1;c0;", -10 - 4);
        e.text("c0;c0;p1 1;", 3);
        e.text("c0;p0 1;c0;p1 1;", 4);
        e.due("one(1, 0)", 1);
        e.text(TWELVE + "p11 1;", 13);
        e.text(TWELVE + "p12 1;", -10 - 37);
        e.text(TWELVE + "p10 1;p11 1;p10 1;", -10 - 49);
        e.told("c0;p0 1;");
        e.types("p0 1;");
        e.still("rose()", -11);
    }

    private static void letters() {
        e.says("TOKENS are letters a .. z side by side, NUMBERS and ; .");
        e.text("ca1;", -10);
        e.text("cz1;", -10);
        e.text("cc1;", -10);
        e.text("ac1;", -10);
        e.text("zc1;", -10);
        e.text("c c1;", -10 - 2);
        e.text("c ab;", -10 - 2);
        e.text("k ab;", -10 - 2);
        e.text("d ab;", -10 - 2);
        e.text("c0;p ab 1;", -10 - 5);
        e.text("c0;p0 ab;", -10 - 6);
        // the letters' own numbers are no letters: 99 is c
        e.text("99 1;", -10);
        e.text("c`1;", -10 - 1);
        e.text("c{1;", -10 - 1);
        e.text("`c1;", -10);
        e.text("{c1;", -10);
        e.text("C1;", -10);
        e.text("c1;K1;", -10 - 3);
        e.text("c1k2;", -10 - 2);
        e.text("c/1;", -11);
        e.text("c:1;", -11);
        e.text("c1:", -12);
        e.text("c1<", -12);
        e.text("c-1;", -11);
        e.text("c+1;", -11);
    }

    /** Each NUMBER of up to three digits, wherever one may stand. */
    private static void numbers() {
        e.says("of a byte that begins none, a NUMBER above 99 or with a 0 ahead of others, that TOKEN's;");
        for (int n = 0; n <= 120; n++) {
            e.text("c" + n + ";", n <= 5 ? 1 : -11);
            e.text("k" + n + ";", n <= 9 ? 1 : -11);
            e.text("d" + n + ";", n >= 1 && n <= 9 ? 1 : -11);
            e.text(TWELVE + "p" + n + " 1;", n <= 11 ? 13 : -10 - 37);
            e.text("c0;p0 " + n + ";", n >= 1 && n <= 5 ? 2 : -10 - 6);
        }
        for (int n = 0; n <= 9; n++) {
            e.text("c0" + n + ";", -11);
            e.text("k0" + n + ";", -11);
            e.text("d0" + n + ";", -11);
            e.text("c0;p0" + n + " 1;", -10 - 4);
            e.text("c0;p0 0" + n + ";", -10 - 6);
        }
        for (String huge : new String[] {"100", "256", "000", "001", "4294967296", "4294967297", "18446744073709551617", "9".repeat(148)}) {
            e.text("c" + huge + ";", -11);
        }
        e.text("c1;01", -10 - 3);
        e.text("c1;100", -10 - 3);
        e.text("c1;!", -10 - 3);
        e.text("c1 !", -10 - 3);
        e.text("   !", -10 - 3);
        e.text("c1;p0!1;", -10 - 5);
    }

    private static void faultsThatCannotStandThere() {
        e.says("FAULT: the place of the first byte of the first TOKEN that can't stand there (letters that begin no ITEM,");
        for (char c = 'a'; c <= 'z'; c++) {
            e.text(c + "", c == 'c' || c == 'k' || c == 'd' || c == 'p' ? -11 : -10);
            e.text("c1;  " + c + "c", -10 - 5);
        }
        e.says("a 13th PANE,");
        e.text(TWELVE + "c", -10 - 36);
        e.text(TWELVE + " c9", -10 - 37);
        e.text("k8;" + TWELVE + "d1;c1;", -10 - 42);
        e.says("k, d again,");
        e.text("k8; k", -10 - 4);
        e.text("d8; d", -10 - 4);
        e.text("k8;d8;d", -10 - 6);
        e.text("k8;d8;k", -10 - 6);
        e.says("a seventh of PEOPLE,");
        e.text(TWELVE + SIX + "p", -10 - 67);
        e.text(TWELVE + SIX + " p5 1;", -10 - 68);
        e.says("a SPOT that somebody has,");
        e.text("c0;c0;p1 1;p1 2;", -10 - 12);
        e.text("c0;c0;p0 1;p1 1;p0", -10 - 17);
        e.says("a NUMBER beyond what it may be, too);");
        e.text("c1;c6", -10 - 4);
        e.text("c1;k10", -10 - 4);
        e.text("c1;d0", -10 - 4);
        e.text("c1;d10", -10 - 4);
        e.text("c1;p1", -10 - 4);
        e.text("c1;p0 0", -10 - 6);
        e.text("c1;p0 6", -10 - 6);
        e.text("c 99;", -10 - 2);
    }

    private static void theFirstFault() {
        e.says("the first TOKEN that can't stand there");
        e.text("x!", -10);
        e.text("x 100", -10);
        e.text("c6;x", -11);
        e.text("c1 x !", -10 - 3);
        e.text("c1;k1;k1;x", -10 - 6);
        e.text("c1;p1 9;", -10 - 4);
        e.text("c1;p0 9 9", -10 - 6);
        e.text("p9 9", -11);
    }

    /** Each of the 256 bytes in the place of an ITEM's letters, of its NUMBER, and of its end. */
    private static void everyByte() {
        e.says("of a byte that begins none,");
        for (int b = 0; b <= 255; b++) {
            boolean letter = b >= 'a' && b <= 'z';
            boolean digit = b >= '0' && b <= '9';
            int first = b == ' ' ? -11 : b == 'c' || b == 'k' || b == 'd' ? 1 : b == 'p' ? -11 : -10;
            e.text((char) b + "1;", b == ' ' ? -11 : first);
            int second = digit && b <= '5' ? 1 : letter ? -10 : b == ' ' ? -12 : -11;
            e.text("c" + (char) b + ";", second);
            int third = b == ';' ? 1 : digit ? -11 : b == ' ' ? -13 : -12;
            e.text("c1" + (char) b, third);
        }
    }

    private static void endedTooEarly() {
        e.says("the text's length, if it ends too early.");
        String whole = "c1;k2;d3;p0 4;";
        // behind each ; it ends in time, and nowhere else
        for (int length = 0; length <= whole.length(); length++) {
            String part = whole.substring(0, length);
            boolean inTime = part.isEmpty() || part.endsWith(";");
            int items = part.length() == 14 ? 4 : part.length() / 3;
            e.text(part, inTime ? items : -10 - length);
            e.text(part + "  ", inTime ? items : -10 - length - 2);
        }
        e.text("c" + " ".repeat(149), -160);
        e.text(" ".repeat(149) + "c", -160);
        e.text(" ".repeat(149) + "x", -159);
    }

    private static void aNewObject() {
        e.says("`RoseWheel()`: As told; no PANES, nobody.");
        e.fresh();
        int[] counts = {0, 8, 1, 0, 0, 0, 0, 0};
        for (int what = 0; what < counts.length; what++) {
            e.still("count(" + what + ")", counts[what]);
        }
        int[] nows = {0, 0, 0, 0, 0, NONE, 0};
        for (int what = 0; what < nows.length; what++) {
            e.still("now(" + what + ")", nows[what]);
        }
        e.allStill(BAD, "pane(0)", "one(0, 0)", "owed(0, 1)", "goes(0, 0)", "forgives(0, 1)", "shade(0, 1)", "speeds(0, 0, 0)",
            "steps(0, 0, 1, 0)", "seats(1, 0)", "odds(0, 0, 1, 0, 0)", "saw(0, 0)");
        e.allStill(STATE, "spins(1)", "passes(1)", "covers(0)", "undo()", "stops(1)", "seats(1, -1)", "back(0)", "back(1)");
        e.allStill(NONE, "chair(0, 0)", "chair(0, 1)", "look()");
        e.allStill(0, "clear()", "forget()", "trace()");
        e.still("mark(0, 0)", NO);
        e.still("spun(0)", 60);
        e.still("laws(0)", 90);
    }

    private static void typing() {
        e.says("`int type(int c)`: A byte (0 .. 255) comes to THE TEXT: how many it has. BAD; FULL.");
        e.fresh();
        e.due("type(0)", 1);
        e.due("type(255)", 2);
        e.allStill(BAD, "type(-1)", "type(256)", "type(2147483647)", "type(-2147483648)");
        for (int n = 3; n <= 150; n++) {
            e.due("type(32)", n);
        }
        e.allStill(FULL, "type(32)", "type(0)", "type(255)");
        e.allStill(BAD, "type(-1)", "type(256)");
        e.still("rose()", -10);
        e.still("type(32)", FULL);
        e.due("clear()", 150);
        e.due("type(32)", 1);
        e.fresh();
        e.types("c1;" + " ".repeat(147));
        e.still("type(99)", FULL);
        e.due("rose()", 1);
        e.due("type(99)", 1);
    }

    private static void clearing() {
        e.says("`int clear()`: THE TEXT is empty: how many bytes it had.");
        e.told("c1;p0 1;");
        e.still("clear()", 0);
        e.types(" ".repeat(150));
        e.due("clear()", 150);
        e.still("clear()", 0);
        e.due("count(7)", 0);
        e.due("count(0)", 1);
        e.due("count(3)", 1);
        e.types("c6");
        e.due("clear()", 2);
        e.types("c5;");
        e.due("rose()", 1);
    }

    private static void reading() {
        e.says("`int rose()`: THE TEXT tells all, and is empty then: how many ITEMS. -10 less FAULT: nothing changes.");
        e.text("", 0);
        e.text("c0;", 1);
        e.text(TWELVE + SIX + "k0;d1;", 20);
        e.text("!", -10);
        e.text("c" + " ".repeat(149), -160);
        busyWheel();
        e.types("c4;k3;d3;p0 5;c6");
        e.still("rose()", -25);
        e.due("count(7)", 16);
        e.due("back(1)", 2);
        e.due("clear()", 16);
        e.types("c4;k3;d3;p0 5;");
        e.due("rose()", 4);
        e.due("count(7)", 0);
        e.due("rose()", 0);
        e.due("count(0)", 0);
        e.due("count(3)", 0);
    }

    private static void busyWheel() {
        e.told("c1;c2;c3;k0;d9;p0 1;p1 2;p2 3;");
        e.go("spins(3)", "keep(0)", "passes(1)", "covers(1)", "covers(0)", "spins(1)", "keep(1)", "saw(0, 1)", "hears(1, 1)", "mark(3, 1)");
    }

    private static void readAnew() {
        e.says("(Read anew: as told, nothing OWED, SEEN, HEARD or to be UNDONE, IMAGES are gone.)");
        busyWheel();
        e.go("covers(1)");
        e.reads("c1;c2;c3;p2 5;p1 4;p0 3;");
        int[] counts = {3, 8, 1, 3, 0, 0, 0, 0};
        for (int what = 0; what < counts.length; what++) {
            e.due("count(" + what + ")", counts[what]);
        }
        int[] nows = {0, 0, 0, 0, 0, 3, 0};
        for (int what = 0; what < nows.length; what++) {
            e.due("now(" + what + ")", nows[what]);
        }
        for (int p = 0; p < 3; p++) {
            e.due("one(" + p + ", 0)", 2 - p);
            e.due("one(" + p + ", 1)", 5 - p);
            e.due("one(" + p + ", 2)", 3 - p);
            e.due("one(" + p + ", 3)", 0);
            e.due("one(" + p + ", 4)", 0);
        }
        e.allStill(STATE, "undo()", "back(0)", "back(1)", "forgives(0, 1)", "forgives(1, 0)", "covers(0)");
        e.due("spun(0)", 60);
        e.due("laws(0)", 90);
        e.due("forget()", 0);
        // when more was done than may be UNDONE, too
        busyWheel();
        e.times(12, "spins(1)");
        e.go("passes(2)", "covers(1)");
        e.reads("c1;c2;c3;p2 5;p1 4;p0 3;");
        for (int what = 0; what <= 4; what++) {
            e.due("now(" + what + ")", 0);
        }
        for (int p = 0; p < 3; p++) {
            e.due("one(" + p + ", 0)", 2 - p);
            e.due("one(" + p + ", 3)", 0);
            e.due("one(" + p + ", 4)", 0);
        }
        e.still("undo()", STATE);
        busyWheel();
        e.reads("");
        e.due("count(0)", 0);
        e.due("count(3)", 0);
        e.due("count(1)", 8);
        e.due("count(2)", 1);
        e.allStill(STATE, "undo()", "back(0)", "back(1)", "spins(1)");
    }

    private static void panesAsked() {
        e.says("`int pane(int p)`: COLOUR of a PANE. BAD.");
        e.told("c5;");
        e.still("pane(0)", 5);
        e.allStill(BAD, "pane(-1)", "pane(1)", "pane(2147483647)", "pane(-2147483648)");
        e.told(TWELVE);
        e.still("pane(0)", 0);
        e.still("pane(11)", 5);
        e.allStill(BAD, "pane(-1)", "pane(12)");
        e.go("spins(5)", "passes(7)", "covers(1)");
        e.still("pane(0)", 0);
        e.still("pane(11)", 5);
        e.reads("c3;");
        e.still("pane(0)", 3);
        e.still("pane(1)", BAD);
    }

    private static void onesAsked() {
        e.says("Of one: 0 the SPOT, 1 WANT, 2 the COLOUR in which one stands, 3 PATIENCE, 4 by how much one is OWED by all. BAD.");
        e.told("k0;" + TWELVE + SIX);
        // by 12 CLICKS all is where it was: 1 and 5 stand in ruby and violet, 2 in blue, 3 in green
        e.go("spins(12)");
        int[][] all = {{0, 1, 0, 0, 0}, {1, 2, 1, 0, 1}, {2, 3, 2, 0, 0}, {3, 4, 3, 1, 0}, {4, 5, 4, 0, 0}, {11, 1, 5, 0, 0}};
        for (int p = 0; p < 6; p++) {
            for (int what = 0; what < 5; what++) {
                e.still("one(" + p + ", " + what + ")", all[p][what]);
            }
        }
        e.allStill(BAD, "one(-1, 0)", "one(6, 0)", "one(0, -1)", "one(0, 5)", "one(6, 5)", "one(2147483647, 0)", "one(0, -2147483648)");
        e.told("c1;p0 1;");
        e.still("one(0, 0)", 0);
        e.still("one(1, 0)", BAD);
    }

    private static void owedAsked() {
        e.says("By how much one is OWED by another one. BAD (alike ones, too).");
        e.told("k0;c1;c2;c0;c0;c0;c2;p0 1;p1 1;p2 1;p3 1;p4 1;p5 1;");
        e.go("spins(6)", "spins(6)");
        e.still("owed(0, 1)", 2);
        e.still("owed(0, 5)", 2);
        e.still("owed(1, 0)", 0);
        e.still("owed(5, 0)", 0);
        e.still("owed(4, 5)", 0);
        e.allStill(BAD, "owed(0, 0)", "owed(5, 5)", "owed(6, 6)", "owed(-1, 0)", "owed(0, -1)", "owed(6, 0)", "owed(0, 6)", "owed(-1, -1)");
        e.told("c1;c2;p0 1;");
        e.allStill(BAD, "owed(0, 0)", "owed(0, 1)", "owed(1, 0)");
    }
}
