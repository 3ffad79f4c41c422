/** The boundary cases of the document's part 4 and of promises 30 to 34, and of how long an object is used. */
public final class EdgesKindsTest {
    private static final int BAD = Edges.BAD, STATE = Edges.STATE, FULL = Edges.FULL, NO = Edges.NO;
    private static final String TWELVE = "c0;c1;c2;c3;c4;c5;c0;c1;c2;c3;c4;c5;";
    private static final Edges e = new Edges("EdgesKindsTest");

    public static void main(String[] args) {
        kinds();
        marksAtTheirLeastAndGreatest();
        traces();
        images();
        imagesKeepWhatMayBeUndone();
        nothingElse();
        markAsked();
        keepAsked();
        backAsked();
        countAsked();
        traceAsked();
        refusedInOrder();
        noneBelow();
        usedUp();
        e.end();
    }

    private static void kinds() {
        e.says("0 ONE; 1 BLIND, 2 BEADLE, 5 DOG (each under ONE); 3 CRIPPLE (under BLIND); 4 DAUGHTER (under BEADLE).");
        e.told("k0;c4;c0;c3;c5;p0 1;p2 1;p3 1;");
        e.go("spins(4)", "spins(4)");
        // 1 stands on SPOT 2 in green and has PATIENCE 2; 2 FEASTS were; 0 is on SPOT 0 in gold, 2 on SPOT 3 in violet
        int[][] marks = {{4, 3, 5}, {4, 5, 5}, {4, 1, 2}, {8, 10, 10}, {4, 2, 4}, {6, 5, 7}};
        for (int kind = 0; kind <= 5; kind++) {
            for (int p = 0; p <= 2; p++) {
                e.due("mark(" + kind + ", " + p + ")", marks[kind][p]);
            }
        }
        e.allStill(NO, "mark(-1, 0)", "mark(6, 0)");
        e.go("covers(1)");
        int[][] dark = {{0, 0, 0}, {0, 2, 0}, {0, -2, -3}, {0, 4, 0}, {0, -1, -1}, {2, 2, 2}};
        for (int kind = 0; kind <= 5; kind++) {
            for (int p = 0; p <= 2; p++) {
                e.due("mark(" + kind + ", " + p + ")", dark[kind][p]);
            }
        }
    }

    private static void marksAtTheirLeastAndGreatest() {
        e.says("ONE the COLOUR in which one stands (1). BLIND up, and PATIENCE (10). BEADLE up less the SPOT (100). CRIPPLE up times 2 (1000). DAUGHTER up, and the number (10000). DOG up, and FEASTS (100000).");
        e.told(TWELVE + "p11 1;p0 1;p1 1;p2 1;p3 1;p10 1;");
        e.due("mark(2, 0)", 5 - 11);
        e.due("mark(4, 5)", 4 - 10 + 5);
        e.go("covers(1)");
        e.due("mark(2, 0)", -11);
        e.due("mark(4, 0)", -11);
        e.due("mark(4, 5)", -5);
        e.told("c3;p0 1;");
        e.times(100, "spins(1)");
        e.due("mark(1, 0)", 3 + 99);
        e.due("mark(3, 0)", 2 * (3 + 99));
        e.due("mark(5, 0)", 3 + 100);
    }

    private static void traces() {
        e.says("(numbers in brackets come to THE TRACE as often as mark() asks that body; \"up\" is what the KIND above does)");
        e.told("c1;p0 1;");
        long[] traces = {1, 11, 101, 1011, 10101, 100001};
        long sum = 0;
        for (int kind = 0; kind <= 5; kind++) {
            e.go("mark(" + kind + ", 0)");
            sum += traces[kind];
            e.due("trace()", sum);
            e.go("mark(" + kind + ", 0)");
            sum += traces[kind];
            e.due("trace()", sum);
        }
        e.allStill(NO, "mark(6, 0)", "mark(-1, 0)", "mark(0, 1)", "mark(0, -1)");
        e.due("trace()", sum);
        // each once more, by nobody else than mark()
        e.go("one(0, 2)", "one(0, 3)", "spins(1)", "keep(0)", "back(0)", "covers(1)", "undo()");
        e.due("trace()", sum);
    }

    private static void images() {
        e.says("IMAGES 0, 1 keep NOW (TURN, HOUR, the CLOUD, SPOTS, what is OWED, PATIENCE, FEASTS, what may be UNDONE);");
        e.told("k0;c1;c2;c3;c4;p0 1;p1 2;p2 3;");
        e.go("spins(4)", "keep(0)", "spins(5)", "goes(1, 3)", "passes(2)", "covers(1)", "forgives(0, 1)", "keep(1)", "undo()", "spins(1)", "goes(0, 1)");
        e.due("back(0)", 1);
        asOfImage0();
        e.due("back(1)", 2);
        int[] nows = {1, 2, 1, 2, 0};
        for (int what = 0; what < nows.length; what++) {
            e.due("now(" + what + ")", nows[what]);
        }
        e.due("one(1, 0)", 3);
        e.due("one(2, 3)", 0);
        e.due("one(1, 3)", 1);
        e.due("count(6)", 6);
        e.due("undo()", 5);
        e.due("owed(0, 1)", 1);
        e.due("back(0)", 1);
        asOfImage0();
    }

    private static void asOfImage0() {
        int[] nows = {0, 0, 0, 1, 1};
        for (int what = 0; what < nows.length; what++) {
            e.due("now(" + what + ")", nows[what]);
        }
        e.due("one(0, 0)", 0);
        e.due("one(1, 0)", 1);
        e.due("owed(0, 1)", 1);
        e.due("one(2, 3)", 1);
        e.due("one(1, 3)", 0);
        e.due("count(6)", 1);
    }

    private static void imagesKeepWhatMayBeUndone() {
        e.says("what may be UNDONE); nothing else.");
        e.told(TWELVE);
        e.go("keep(0)");
        e.times(12, "passes(1)");
        e.go("keep(1)");
        e.times(3, "passes(5)");
        e.go("undo()");
        e.due("back(1)", 0);
        e.due("count(6)", 10);
        for (int left = 9; left >= 0; left--) {
            e.due("undo()", left);
            e.due("now(1)", left + 2);
        }
        e.still("undo()", STATE);
        e.due("back(0)", 0);
        e.still("undo()", STATE);
        e.due("back(1)", 0);
        e.due("count(6)", 10);
        e.due("passes(1)", 1);
        e.due("count(6)", 10);
        e.times(10, "undo()");
        e.due("now(1)", 3);
        e.still("undo()", STATE);
    }

    private static void nothingElse() {
        e.told("k0;c1;c2;p0 1;");
        e.go("saw(0, 1)", "hears(1, 1)", "keep(0)", "saw(1, 1)", "hears(2, 2)", "hears(3, 3)", "mark(0, 0)", "type(99)");
        e.due("back(0)", 0);
        e.due("count(4)", 2);
        e.due("count(5)", 3);
        e.due("count(7)", 1);
        e.due("trace()", 1);
        e.go("forget()", "clear()");
        e.due("back(0)", 0);
        e.due("count(4)", 0);
        e.due("count(5)", 0);
        e.due("count(7)", 0);
        // nor does an IMAGE keep IMAGES
        e.go("keep(1)", "spins(1)", "keep(1)", "back(0)");
        e.due("back(1)", 1);
    }

    private static void markAsked() {
        e.says("`int mark(int kind, int p)`: MARK. NO: BAD.");
        e.told(TWELVE + "p0 1;p1 1;p2 1;p3 1;p4 1;p5 1;");
        e.due("mark(0, 0)", 0);
        e.due("mark(5, 5)", 5);
        e.allStill(NO, "mark(-1, 0)", "mark(6, 0)", "mark(0, -1)", "mark(0, 6)", "mark(6, 6)", "mark(2147483647, 0)", "mark(0, -2147483648)");
        e.told("c1;p0 1;");
        e.due("mark(5, 0)", 1);
        e.still("mark(5, 1)", NO);
        e.told("c1;");
        e.still("mark(0, 0)", NO);
    }

    private static void keepAsked() {
        e.says("`int keep(int image)`: An IMAGE is kept: FEASTS. BAD.");
        e.fresh();
        e.allStill(BAD, "keep(-1)", "keep(2)", "keep(2147483647)", "keep(-2147483648)");
        e.due("keep(0)", 0);
        e.due("keep(1)", 0);
        e.told("c1;");
        e.times(12, "spins(1)");
        e.due("keep(1)", 12);
        e.go("spins(1)");
        e.due("keep(1)", 13);
        e.due("count(6)", 10);
        e.still("keep(1)", 13);
        e.go("spins(1)");
        e.due("back(1)", 13);
        e.still("back(0)", STATE);
    }

    private static void backAsked() {
        e.says("All of that becomes as an IMAGE has it: FEASTS. BAD; STATE: none was kept.");
        e.told("c1;");
        e.allStill(BAD, "back(-1)", "back(2)", "back(2147483647)", "back(-2147483648)");
        e.allStill(STATE, "back(0)", "back(1)");
        e.go("spins(1)", "keep(1)");
        e.still("back(0)", STATE);
        e.still("back(1)", 1);
        e.go("spins(1)", "spins(1)");
        e.due("back(1)", 1);
        e.due("now(3)", 1);
        e.still("back(1)", 1);
        e.due("undo()", 0);
        e.due("now(3)", 0);
        e.due("back(1)", 1);
        e.reads("c1;");
        e.allStill(STATE, "back(0)", "back(1)");
        e.allStill(BAD, "back(-1)", "back(2)");
    }

    private static void countAsked() {
        e.says("0 PANES, 1 KEEPS, 2 DRAG, 3 PEOPLE, 4 SEEN, 5 HEARD, 6 how many may be UNDONE, 7 bytes of THE TEXT. BAD.");
        e.told("c1;c2;c3;k7;d6;p0 1;p1 1;");
        e.go("saw(0, 1)", "hears(1, 1)", "hears(1, 1)", "passes(1)", "passes(1)", "passes(1)");
        e.types("abcd");
        int[] wants = {3, 7, 6, 2, 1, 2, 3, 4};
        for (int what = 0; what < wants.length; what++) {
            e.still("count(" + what + ")", wants[what]);
        }
        e.allStill(BAD, "count(-1)", "count(8)", "count(2147483647)", "count(-2147483648)");
        e.told(TWELVE + "k9;d9;p0 1;p1 1;p2 1;p3 1;p4 1;p5 1;");
        e.times(7, "saw(0, 1)");
        e.times(7, "hears(1, 1)");
        e.times(11, "passes(1)");
        e.types("x".repeat(151));
        int[] most = {12, 9, 9, 6, 6, 6, 10, 150};
        for (int what = 0; what < most.length; what++) {
            e.still("count(" + what + ")", most[what]);
        }
    }

    private static void traceAsked() {
        e.says("`long trace()`: THE TRACE.");
        e.told("c1;p0 1;");
        e.still("trace()", 0);
        e.times(400, "mark(5, 0)");
        e.still("trace()", 40000400);
        e.times(12, "mark(3, 0)");
        e.still("trace()", 40012532);
    }

    private static void refusedInOrder() {
        e.says("Refused, and nothing changes, the first of these: BAD (a number is not as told, or there is no such thing), STATE (as told), FULL.");
        // BAD, though no PANES are there, somebody has the SPOT, nothing is OWED, none was kept
        e.fresh();
        e.allStill(BAD, "spins(0)", "spins(61)", "passes(0)", "passes(12)", "stops(0)", "stops(61)", "seats(0, -1)", "seats(1, 0)", "back(2)");
        e.told("c1;c2;p0 1;p1 1;");
        e.allStill(BAD, "goes(2, 0)", "goes(-1, 1)", "forgives(0, 0)", "forgives(0, 2)", "covers(2)", "back(-1)");
        // BAD, though there is room for no more
        e.types("x".repeat(150));
        e.times(6, "saw(0, 1)");
        e.times(6, "hears(1, 1)");
        e.allStill(BAD, "type(256)", "type(-1)", "saw(2, 1)", "saw(0, 6)", "hears(0, 1)", "hears(1, 1000)");
        e.allStill(FULL, "type(255)", "type(0)", "saw(0, 0)", "saw(1, 5)", "hears(1, 0)", "hears(60, 999)");
        e.still("rose()", -10);
    }

    private static void noneBelow() {
        e.says("`NO = -1000000`: What none is, where a number may be below 0.");
        e.told(TWELVE + "p1 1;p2 1;p3 1;");
        e.go("covers(1)");
        // these are MARKS, though BAD, STATE and FULL look alike
        e.due("mark(2, 0)", BAD);
        e.due("mark(2, 1)", STATE);
        e.due("mark(2, 2)", FULL);
        e.due("trace()", 303);
        e.still("mark(2, 3)", NO);
    }

    private static void usedUp() {
        e.says("An object is used for at most 512 calls after it has been made;");
        e.fresh();
        String text = "k0;c3;c1;c2;p0 1;p1 1;p2 1;";
        e.types(text);
        e.due("rose()", 7);
        e.times(512 - text.length() - 1 - 4, "spins(3)");
        e.due("now(3)", 480);
        e.due("one(0, 3)", 99);
        e.due("undo()", 9);
        e.due("trace()", 0);
    }
}
