/** The boundary cases of the document's part 2 and of promises 8 to 14. */
public final class EdgesDeedsTest {
    private static final int BAD = Edges.BAD, STATE = Edges.STATE, FULL = Edges.FULL, NONE = Edges.NONE;
    private static final String TWELVE = "c0;c1;c2;c3;c4;c5;c0;c1;c2;c3;c4;c5;";
    private static final Edges e = new Edges("EdgesDeedsTest");

    public static void main(String[] args) {
        turnAndHour();
        standing();
        cloud();
        slowing();
        withoutPanes();
        feasts();
        owing();
        patience();
        going();
        passing();
        covering();
        forgiving();
        undoing();
        lostFromTheFirst();
        undoingEachDeed();
        spinsAsked();
        goesAsked();
        passesAsked();
        coversAsked();
        forgivesAsked();
        undoAsked();
        nowAsked();
        alike();
        rings();
        e.end();
    }

    private static void turnAndHour() {
        e.says("======== 2 TURN of the wheel (0 at first, as many as PANES less 1 at most), HOUR (0 at first; likewise).");
        e.told("k0;" + TWELVE);
        e.due("now(0)", 0);
        e.due("now(1)", 0);
        e.due("spins(11)", 11);
        e.due("now(0)", 11);
        e.due("spins(1)", 0);
        e.due("now(0)", 0);
        e.due("spins(12)", 0);
        e.due("spins(13)", 1);
        e.due("spins(60)", 1);
        e.due("now(1)", 0);
        e.due("passes(11)", 11);
        e.due("now(1)", 11);
        e.due("passes(1)", 0);
        e.due("now(1)", 0);
        e.due("passes(11)", 11);
        e.due("passes(11)", 10);
        e.due("now(0)", 1);
        e.told("k0;c1;");
        e.due("spins(1)", 0);
        e.due("spins(60)", 0);
        e.due("passes(1)", 0);
        e.due("passes(11)", 0);
        e.told("k0;c1;c2;");
        e.due("spins(1)", 1);
        e.due("spins(59)", 0);
        e.due("passes(11)", 1);
        e.due("passes(11)", 0);
    }

    private static void standing() {
        e.says("A SPOT s stands in the PANE that is s, TURN and HOUR together, modulo the number of PANES.");
        e.told("k0;" + TWELVE + "p11 1;p0 1;");
        e.due("one(1, 2)", 0);
        e.due("one(0, 2)", 5);
        e.go("spins(1)");
        e.due("one(1, 2)", 1);
        e.due("one(0, 2)", 0);
        e.go("spins(10)", "passes(1)");
        e.due("one(1, 2)", 0);
        e.due("one(0, 2)", 5);
        e.go("passes(1)");
        e.due("one(0, 2)", 0);
        e.go("passes(9)");
        // 11 and 11 and 11 are twice round and 9 more; 0 and 11 and 11 once round and 10 more
        e.due("one(0, 2)", 3);
        e.due("one(1, 2)", 4);
        e.told("k0;c1;c2;c3;c4;c5;p4 1;");
        e.go("spins(4)", "passes(4)");
        e.due("one(0, 2)", 3);
        e.told("c3;p0 1;");
        e.go("spins(7)", "passes(5)");
        e.due("one(0, 2)", 3);
    }

    private static void cloud() {
        e.says("There is a CLOUD, or none (at first); under it all stand in lead.");
        e.told("k0;c1;c2;c3;c4;c5;c1;p0 1;p1 1;p2 1;p3 1;p4 1;p5 1;");
        e.due("now(2)", 0);
        for (int p = 0; p < 6; p++) {
            e.due("one(" + p + ", 2)", p == 5 ? 1 : p + 1);
        }
        e.due("covers(1)", 6);
        e.due("now(2)", 1);
        for (int p = 0; p < 6; p++) {
            e.due("one(" + p + ", 2)", 0);
        }
        e.due("covers(0)", 0);
        e.due("one(5, 2)", 1);
    }

    private static void slowing() {
        e.says("SPUN by a speed v (1 .. 60): it goes v CLICKS on; then v becomes KEEPS tenths of it (cut) less DRAG; again, as long as it is above 0.");
        // 1 is left, then nothing; 0 is left; less than 0 is left
        slows("k5;d2;", 6, 7);
        slows("k5;d2;", 4, 4);
        slows("k5;d9;", 4, 4);
        // 9 8.1 6.3 4.5 2.7 0.9, each cut and less 1
        slows("k9;d1;", 9, 9 + 7 + 5 + 3 + 1);
        slows("k9;d1;", 2, 2);
        slows("k9;d1;", 3, 4);
        slows("k9;d1;", 1, 1);
        slows("k9;d1;", 60, 382);
        slows("k9;d9;", 60, 60 + 45 + 31 + 18 + 7);
        slows("k0;d1;", 60, 60);
        slows("k1;d1;", 60, 65);
        slows("k1;d6;", 60, 60);
        slows("k1;d1;", 20, 21);
        slows("k1;d1;", 19, 19);
        slows("", 60, 229);
        slows("", 1, 1);
        slows("", 2, 2);
        slows("", 3, 4);
        e.says("CLICKS of v: all of them together.");
        slows("k9;d4;", 20, 20 + 14 + 8 + 3);
        slows("k9;d4;", 59, 59 + 49 + 40 + 32 + 24 + 17 + 11 + 5);
        slows("k0;d5;", 20, 20);
    }

    /** A wheel told so goes so many CLICKS by a speed, and stops by them. */
    private static void slows(String law, int v, int clicks) {
        e.told(law + TWELVE);
        e.still("clicks(" + v + ")", clicks);
        e.still("stops(" + v + ")", clicks % 12);
        e.due("spins(" + v + ")", clicks % 12);
    }

    private static void withoutPanes() {
        e.says("(Without PANES nobody can spin.)");
        e.fresh();
        e.allStill(STATE, "spins(1)", "spins(60)");
        e.told("k0;d9;");
        e.still("spins(1)", STATE);
        e.due("now(3)", 0);
        e.due("count(6)", 0);
        e.reads("c1;");
        e.due("spins(1)", 0);
        e.reads("");
        e.still("spins(1)", STATE);
    }

    private static void feasts() {
        e.says("Then it is a FEAST (999 at most):");
        e.told("k0;c1;c2;p0 1;p1 1;");
        e.due("now(3)", 0);
        e.go("spins(1)");
        e.due("now(3)", 1);
        e.go("passes(1)", "covers(1)", "covers(0)", "undo()");
        e.due("now(3)", 1);
        // more than the 512 calls that are promised, for only so the greatest number is met
        e.times(997, "spins(2)");
        e.due("now(3)", 998);
        e.due("spins(2)", 1);
        e.due("now(3)", 999);
        e.allStill(FULL, "spins(2)", "spins(1)", "spins(60)");
        e.allStill(BAD, "spins(0)", "spins(61)");
        e.due("undo()", 9);
        e.due("now(3)", 998);
        e.due("spins(1)", 0);
        e.due("now(3)", 999);
    }

    private static void owing() {
        e.says("each who stands in ruby is OWED 1 more (99 at most) by each who stands in blue;");
        feastOf(1, 1, 2, 2, 3, 0);
        feastOf(2, 1, 1, 2, 3, 0);
        feastOf(2, 0, 3, 0, 1, 1);
        feastOf(1, 0, 4, 5, 2, 2);
        feastOf(0, 2, 1, 0, 0, 0);
        feastOf(0, 2, 1, 3, 1, 2);
        feastOf(2, 1, 1, 1, 1, 1);
        feastOf(1, 2, 2, 2, 2, 2);
        feastOf(3, 3, 3, 3, 3, 3);
        feastOf(1, 1, 1, 1, 1, 1);
        feastOf(2, 2, 2, 2, 2, 2);
        e.told("k0;c1;c0;p0 1;p1 1;");
        e.go("spins(2)");
        e.due("now(4)", 0);
        e.told("k0;c2;c3;p0 1;p1 1;");
        e.go("spins(2)");
        e.due("now(4)", 0);
        e.told("k0;c1;c2;p0 1;");
        e.go("spins(2)");
        e.due("now(4)", 0);
        e.told("k0;c1;c2;p0 1;p1 1;");
        e.times(98, "spins(2)");
        e.due("owed(0, 1)", 98);
        e.go("spins(2)");
        e.due("owed(0, 1)", 99);
        e.go("spins(2)");
        e.due("owed(0, 1)", 99);
        e.due("one(0, 4)", 99);
        e.due("now(4)", 99);
        e.due("now(3)", 100);
        e.go("spins(1)");
        e.due("owed(1, 0)", 1);
        e.due("forgives(0, 1)", 99);
        e.go("spins(1)");
        e.due("owed(0, 1)", 1);
        e.told("k0;c1;c2;p0 1;p1 1;");
        e.go("covers(1)", "spins(2)");
        e.due("now(4)", 0);
        e.go("covers(0)");
        e.due("now(4)", 0);
        e.go("passes(1)");
        e.due("now(4)", 0);
        e.go("spins(2)");
        // the wheel stands as at first, but the sun has gone on
        e.due("owed(1, 0)", 1);
        e.due("owed(0, 1)", 0);
    }

    /** Six stand in these COLOURS at a FEAST. */
    private static void feastOf(int... colours) {
        StringBuilder text = new StringBuilder("k0;");
        for (int colour : colours) {
            text.append('c').append(colour).append(';');
        }
        e.told(text + "p0 1;p1 1;p2 1;p3 1;p4 1;p5 1;");
        e.due("spins(6)", 0);
        int sum = 0;
        for (int p = 0; p < 6; p++) {
            int byAll = 0;
            for (int q = 0; q < 6; q++) {
                int owed = colours[p] == 1 && colours[q] == 2 ? 1 : 0;
                byAll += owed;
                e.due("owed(" + p + ", " + q + ")", p == q ? BAD : owed);
            }
            e.due("one(" + p + ", 4)", byAll);
            e.due("one(" + p + ", 3)", colours[p] == 3 ? 1 : 0);
            sum += byAll;
        }
        e.due("now(4)", sum);
        e.go("passes(1)", "covers(1)", "spins(5)", "undo()");
        e.due("now(4)", sum);
    }

    private static void patience() {
        e.says("who stands in green has 1 more of PATIENCE (99 at most), who does not has none.");
        e.told("k0;c3;c4;p0 1;p1 1;");
        e.due("one(0, 3)", 0);
        e.times(98, "spins(2)");
        e.due("one(0, 3)", 98);
        e.go("spins(2)");
        e.due("one(0, 3)", 99);
        e.go("spins(2)");
        e.due("one(0, 3)", 99);
        e.due("one(1, 3)", 0);
        e.go("spins(1)");
        e.due("one(0, 3)", 0);
        e.due("one(1, 3)", 1);
        e.go("passes(1)");
        e.due("one(1, 3)", 1);
        e.go("covers(1)");
        e.due("one(1, 3)", 1);
        e.go("spins(1)");
        e.due("one(0, 3)", 0);
        e.due("one(1, 3)", 0);
        e.told("k0;c3;c3;c4;p0 1;p1 1;");
        e.go("spins(3)", "spins(3)", "goes(0, 2)");
        e.due("one(0, 3)", 2);
        e.go("spins(3)");
        e.due("one(0, 3)", 0);
        e.due("one(1, 3)", 3);
    }

    private static void going() {
        e.says("GONE: one goes to a SPOT that nobody has.");
        e.told("c1;c2;c3;p0 1;p1 2;");
        e.still("goes(0, 0)", STATE);
        e.still("goes(0, 1)", STATE);
        e.still("goes(1, 0)", STATE);
        e.due("goes(0, 2)", 0);
        e.due("one(0, 0)", 2);
        e.due("one(1, 0)", 1);
        e.still("goes(1, 2)", STATE);
        e.due("goes(1, 0)", 1);
        e.due("goes(0, 1)", 2);
        e.told("c1;c2;p0 1;p1 2;");
        e.allStill(STATE, "goes(0, 0)", "goes(0, 1)", "goes(1, 0)", "goes(1, 1)");
        e.told("c1;p0 1;");
        e.still("goes(0, 0)", STATE);
    }

    private static void passing() {
        e.says("PASSED: HOURS go by (1 .. 11).");
        e.told(TWELVE);
        e.allStill(BAD, "passes(0)", "passes(12)");
        for (int n = 1; n <= 11; n++) {
            e.due("passes(" + n + ")", n);
            e.due("undo()", 0);
        }
    }

    private static void covering() {
        e.says("COVERED: a CLOUD comes, goes.");
        e.fresh();
        e.still("covers(0)", STATE);
        e.due("covers(1)", 0);
        e.still("covers(1)", STATE);
        e.due("covers(0)", 0);
        e.still("covers(0)", STATE);
        e.due("now(2)", 0);
        e.due("count(6)", 2);
    }

    private static void forgiving() {
        e.says("FORGIVEN: what one is OWED by another one is nothing any more.");
        e.told("k0;c1;c2;c2;p0 1;p1 1;p2 1;");
        e.go("spins(3)", "spins(3)", "spins(1)");
        // 0 is OWED 2 by 1 and by 2; then blue, blue, ruby: 2 is OWED 1 by 0 and by 1
        e.due("now(4)", 6);
        e.due("forgives(0, 1)", 2);
        e.due("owed(0, 1)", 0);
        e.due("owed(0, 2)", 2);
        e.due("owed(2, 0)", 1);
        e.due("owed(2, 1)", 1);
        e.due("now(4)", 4);
        e.still("forgives(0, 1)", STATE);
    }

    private static void undoing() {
        e.says("(10 are known, older ones are lost): all is as ahead of it.");
        e.told(TWELVE);
        for (int n = 1; n <= 9; n++) {
            e.go("passes(1)");
        }
        e.due("count(6)", 9);
        e.go("passes(1)");
        e.due("count(6)", 10);
        for (int left = 9; left >= 0; left--) {
            e.due("undo()", left);
            e.due("now(1)", left);
        }
        e.still("undo()", STATE);
        e.times(11, "passes(1)");
        e.due("count(6)", 10);
        for (int left = 9; left >= 0; left--) {
            e.due("undo()", left);
            e.due("now(1)", left + 1);
        }
        e.still("undo()", STATE);
        e.due("now(1)", 1);
        // when some were undone there is room for as many again
        e.times(10, "passes(1)");
        e.go("undo()", "undo()", "undo()");
        e.due("count(6)", 7);
        e.times(4, "passes(2)");
        e.due("count(6)", 10);
        e.due("now(1)", 4);
        e.times(9, "undo()");
        e.due("undo()", 0);
        e.due("now(1)", 2);
        e.still("undo()", STATE);
    }

    /** Behind ten undone, of more, each thing is as the oldest that is known has it, and not as at first. */
    private static void lostFromTheFirst() {
        e.told("k0;" + TWELVE + "p0 1;p1 1;p2 1;p3 1;");
        e.go("spins(13)", "passes(11)", "covers(1)", "goes(0, 7)", "covers(0)", "spins(13)", "goes(3, 11)");
        e.times(10, "passes(1)");
        e.times(10, "undo()");
        int[] nows = {2, 11, 0, 2, 1};
        for (int what = 0; what < nows.length; what++) {
            e.due("now(" + what + ")", nows[what]);
        }
        e.due("one(0, 0)", 7);
        e.due("one(3, 0)", 11);
        e.due("one(2, 3)", 2);
        e.due("owed(0, 1)", 1);
        e.still("undo()", STATE);
    }

    private static void undoingEachDeed() {
        e.says("UNDONE: the latest SPUN, GONE, PASSED, COVERED, FORGIVEN");
        e.told("k0;c1;c2;c3;c4;p0 1;p1 2;p2 3;");
        e.go("spins(4)");
        String[] deeds = {"spins(1)", "goes(1, 3)", "passes(2)", "covers(1)", "forgives(0, 1)", "spins(60)"};
        for (String deed : deeds) {
            e.undone(deed);
        }
        for (String deed : deeds) {
            e.go(deed);
        }
        e.due("count(6)", 7);
        e.due("undo()", 6);
        e.due("now(3)", 2);
        e.due("owed(0, 1)", 0);
        e.due("undo()", 5);
        e.due("owed(0, 1)", 1);
        e.due("now(2)", 1);
        e.due("undo()", 4);
        e.due("now(2)", 0);
        e.due("now(1)", 2);
        e.due("undo()", 3);
        e.due("now(1)", 0);
        e.due("one(1, 0)", 3);
        e.due("undo()", 2);
        e.due("one(1, 0)", 1);
        e.due("now(0)", 1);
        e.due("undo()", 1);
        e.due("now(0)", 0);
        e.due("one(2, 3)", 1);
        e.due("undo()", 0);
        e.due("now(3)", 0);
        e.due("one(2, 3)", 0);
        e.due("now(4)", 0);
    }

    private static void spinsAsked() {
        e.says("`int spins(int v)`: SPUN: TURN then. BAD; STATE: no PANES; FULL: 999 FEASTS.");
        e.told("k0;" + TWELVE + "p0 1;p1 2;");
        e.go("passes(5)");
        e.allStill(BAD, "spins(0)", "spins(-1)", "spins(61)", "spins(2147483647)", "spins(-2147483648)");
        e.due("spins(1)", 1);
        e.due("spins(60)", 1);
        e.due("now(3)", 2);
        e.due("count(6)", 3);
        e.fresh();
        e.allStill(BAD, "spins(0)", "spins(61)");
        e.allStill(STATE, "spins(1)", "spins(60)");
        e.told("c1;");
        e.times(999, "spins(1)");
        e.still("spins(1)", FULL);
        e.still("spins(61)", BAD);
        e.reads("");
        e.still("spins(1)", STATE);
    }

    private static void goesAsked() {
        e.says("`int goes(int p, int spot)`: GONE: the SPOT till then. BAD; STATE: somebody has it.");
        e.told(TWELVE + "p0 1;p11 2;p2 1;p3 1;p4 1;p5 1;");
        e.allStill(BAD, "goes(-1, 7)", "goes(6, 7)", "goes(0, -1)", "goes(0, 12)", "goes(6, 12)", "goes(2147483647, 7)", "goes(0, -2147483648)");
        // BAD is ahead of STATE: there is no such one, and somebody has it
        e.allStill(BAD, "goes(-1, 0)", "goes(6, 0)");
        e.allStill(STATE, "goes(0, 0)", "goes(0, 11)", "goes(5, 0)", "goes(1, 11)");
        e.due("goes(1, 10)", 11);
        e.due("goes(0, 11)", 0);
        e.due("goes(5, 0)", 5);
        e.due("count(6)", 3);
        e.told("c1;c2;");
        e.still("goes(0, 0)", BAD);
        e.told("c1;c2;p0 1;");
        e.go("covers(1)");
        e.due("goes(0, 1)", 0);
    }

    private static void passesAsked() {
        e.says("`int passes(int n)`: PASSED: HOUR then. BAD; STATE: no PANES.");
        e.told("c1;c2;c3;c4;c5;");
        e.allStill(BAD, "passes(0)", "passes(-1)", "passes(12)", "passes(2147483647)", "passes(-2147483648)");
        e.due("passes(1)", 1);
        e.due("passes(11)", 2);
        e.due("passes(3)", 0);
        e.due("passes(5)", 0);
        e.due("count(6)", 4);
        e.fresh();
        e.allStill(BAD, "passes(0)", "passes(12)");
        e.allStill(STATE, "passes(1)", "passes(11)");
    }

    private static void coversAsked() {
        e.says("COVERED (1), not (0): how many of PEOPLE stand in lead then. BAD; STATE: it is so.");
        e.told("c0;c1;c0;c0;c2;c3;p0 1;p1 1;p2 1;p3 1;p4 1;p5 1;");
        e.allStill(BAD, "covers(-1)", "covers(2)", "covers(2147483647)", "covers(-2147483648)");
        e.still("covers(0)", STATE);
        e.due("covers(1)", 6);
        e.allStill(BAD, "covers(-1)", "covers(2)");
        e.still("covers(1)", STATE);
        e.due("covers(0)", 3);
        e.due("count(6)", 2);
        e.due("now(3)", 0);
        e.told("c1;c1;p0 1;");
        e.due("covers(1)", 1);
        e.due("covers(0)", 0);
        e.due("undo()", 1);
        e.still("covers(1)", STATE);
        e.due("covers(0)", 0);
    }

    private static void forgivesAsked() {
        e.says("FORGIVEN: how much it was. BAD (alike ones, too); STATE: nothing.");
        e.told("k0;c2;c0;c0;c0;c0;c1;p0 1;p1 1;p2 1;p3 1;p4 1;p5 1;");
        e.go("spins(6)");
        e.allStill(BAD, "forgives(0, 0)", "forgives(5, 5)", "forgives(6, 0)", "forgives(5, 6)", "forgives(-1, 0)", "forgives(5, -1)",
            "forgives(6, 6)", "forgives(2147483647, 0)", "forgives(0, -2147483648)");
        e.allStill(STATE, "forgives(0, 5)", "forgives(0, 1)", "forgives(5, 4)");
        e.due("forgives(5, 0)", 1);
        e.still("forgives(5, 0)", STATE);
        e.due("count(6)", 2);
        e.times(100, "spins(6)");
        e.due("forgives(5, 0)", 99);
        e.told("c1;c2;p0 1;");
        e.allStill(BAD, "forgives(0, 0)", "forgives(0, 1)", "forgives(1, 0)");
    }

    private static void undoAsked() {
        e.says("`int undo()`: UNDONE: how many more may be. STATE: none.");
        e.told("k0;c1;c2;p0 1;p1 1;");
        e.still("undo()", STATE);
        // what is refused, asked, seen, heard, marked or kept is no deed
        e.go("spins(0)", "goes(0, 1)", "covers(0)", "forgives(0, 1)", "passes(12)", "stops(5)", "saw(0, 1)", "hears(1, 1)", "mark(3, 0)", "keep(0)");
        e.still("undo()", STATE);
        e.go("spins(1)");
        e.due("undo()", 0);
        e.still("undo()", STATE);
        e.due("count(4)", 1);
        e.due("count(5)", 1);
        e.due("trace()", 1011);
        e.go("spins(1)", "passes(1)");
        e.due("undo()", 1);
        e.due("undo()", 0);
        e.due("back(0)", 0);
    }

    private static void nowAsked() {
        e.says("0 TURN, 1 HOUR, 2 whether there is a CLOUD (1, 0), 3 FEASTS, 4 what all are OWED, 5 ALIKE (NONE), 6 RING (bits). BAD.");
        e.told("k0;c1;c2;c3;p0 1;p1 1;");
        e.go("spins(60)", "spins(4)", "passes(2)", "covers(1)");
        int[] wants = {1, 2, 1, 2, 1, 3, 0};
        for (int what = 0; what < wants.length; what++) {
            e.still("now(" + what + ")", wants[what]);
        }
        e.allStill(BAD, "now(-1)", "now(7)", "now(2147483647)", "now(-2147483648)");
        e.fresh();
        e.still("now(5)", NONE);
        e.still("now(6)", 0);
        e.still("now(7)", BAD);
    }

    private static void alike() {
        e.says("ALIKE: the least turn (1 .. as many as PANES) by which each PANE has the COLOUR of that one which it comes to; NONE (no PANES).");
        String[] texts = {"", "c3;", "c1;c2;", "c1;c1;", "c1;c2;c1;", "c1;c2;c1;c2;", "c1;c2;c3;c4;c5;", "c1;c1;c2;c1;c1;c2;", "c1;c2;c1;c2;c1;",
            "c0;c0;c0;c0;c0;c0;c0;c0;c0;c0;c0;c0;", "c0;c0;c0;c0;c0;c0;c0;c0;c0;c0;c0;c1;", TWELVE, "c1;c2;c2;c1;c2;c2;c1;c2;c2;c1;c2;c2;"};
        int[] turns = {NONE, 1, 2, 1, 3, 2, 5, 3, 5, 1, 12, 6, 3};
        for (int i = 0; i < texts.length; i++) {
            e.told(texts[i]);
            e.still("now(5)", turns[i]);
        }
        e.told("c1;c2;");
        e.go("spins(1)", "passes(1)", "covers(1)");
        e.still("now(5)", 2);
    }

    private static void rings() {
        e.says("RING: PEOPLE (bits) each of whom is OWED by one who is OWED by one, and so on, who is OWED by that very one.");
        e.told("c1;p0 1;");
        e.go("spins(1)");
        e.still("now(6)", 0);
        e.told("k0;c1;c2;p0 1;p1 1;");
        e.go("spins(2)");
        e.still("now(6)", 0);
        e.go("spins(1)");
        e.still("now(6)", 3);
        e.go("forgives(1, 0)");
        e.still("now(6)", 0);
        e.go("undo()");
        e.still("now(6)", 3);
        e.told("k0;c1;c2;c0;c0;c0;c0;p0 1;p1 1;p2 1;p3 1;p4 1;p5 1;");
        for (int n = 1; n <= 5; n++) {
            e.go("spins(1)");
            e.still("now(6)", 0);
        }
        e.go("spins(1)");
        e.still("now(6)", 63);
        e.go("forgives(3, 4)");
        e.still("now(6)", 0);
        twoRings();
        besideRings();
    }

    /** 0 and 1 owe one another, and 4 and 5; 2 and 3 nobody. */
    private static void twoRings() {
        e.told("k0;c1;c2;c0;c0;c1;c2;p0 1;p1 1;p2 1;p3 1;p4 1;p5 1;");
        e.go("spins(6)", "forgives(0, 5)", "forgives(4, 1)");
        e.still("now(6)", 0);
        e.reads("k0;c1;c2;c0;c0;c1;c2;p0 1;p1 1;p4 1;p5 1;");
        e.go("spins(6)", "forgives(0, 3)", "forgives(2, 1)");
        e.go("goes(0, 2)", "goes(1, 0)", "goes(0, 1)", "goes(2, 2)", "goes(3, 4)", "goes(2, 5)", "spins(6)");
        e.due("owed(1, 0)", 1);
        e.due("owed(3, 2)", 1);
        e.go("forgives(1, 2)", "forgives(3, 0)");
        e.still("now(6)", 15);
        e.go("forgives(0, 1)");
        e.still("now(6)", 12);
    }

    /** Who is only OWED by some of a RING, or only owes some of it, is not in it. */
    private static void besideRings() {
        e.told("k0;c1;c2;c0;c0;p0 1;p1 1;p2 1;");
        e.go("spins(4)", "goes(0, 3)", "goes(1, 0)", "goes(0, 1)", "spins(4)");
        e.still("now(6)", 3);
        e.go("goes(1, 3)", "goes(2, 0)", "spins(4)");
        e.due("owed(2, 0)", 1);
        e.still("now(6)", 3);
        e.go("forgives(2, 0)", "goes(0, 2)", "goes(2, 1)", "goes(0, 0)", "spins(4)");
        e.due("owed(0, 2)", 1);
        e.still("now(6)", 3);
    }
}
