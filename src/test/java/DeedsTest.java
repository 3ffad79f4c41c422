/** Promises 8 to 14: what is done, what is undone, how it is now. */
public final class DeedsTest {
    private static final Check check = new Check("DeedsTest");

    public static void main(String[] args) {
        spinning();
        feasts();
        limitsOfFeasts();
        going();
        passing();
        covering();
        forgiving();
        undoing();
        undoingEachDeed();
        alike();
        rings();
        nows();
        check.end();
    }

    private static void spinning() {
        RoseWheel empty = new RoseWheel();
        check.due("spins(1) without PANES", empty.spins(1), RoseWheel.STATE);
        check.due("spins(0) without PANES", empty.spins(0), RoseWheel.BAD);
        check.due("nothing to undo", empty.count(6), 0);
        RoseWheel x = Check.told("c0;c1;c2;c3;c4;c5;c0;");
        check.due("spins(0)", x.spins(0), RoseWheel.BAD);
        check.due("spins(61)", x.spins(61), RoseWheel.BAD);
        check.due("spins(-1)", x.spins(-1), RoseWheel.BAD);
        check.due("no FEAST by that", x.now(3), 0);
        check.due("spins(1): 1", x.spins(1), 1);
        check.due("spins(5): 5 3 1", x.spins(5), 3);
        check.due("spins(10): 10 7 4 2", x.spins(10), 5);
        check.due("now(0)", x.now(0), 5);
        check.due("now(1)", x.now(1), 0);
        check.due("now(3)", x.now(3), 3);
        check.due("spins(60): 229", x.spins(60), 3);
    }

    private static void feasts() {
        RoseWheel x = Check.told("k0;c1;c2;c3;c1;c2;p0 1;p1 1;p2 1;p3 1;p4 1;");
        x.spins(5);
        for (int p = 0; p < 5; p++) {
            for (int q = 0; q < 5; q++) {
                boolean owes = (p == 0 || p == 3) && (q == 1 || q == 4);
                if (p != q) {
                    check.due("owed(" + p + ", " + q + ")", x.owed(p, q), owes ? 1 : 0);
                }
            }
            check.due("PATIENCE of " + p, x.one(p, 3), p == 2 ? 1 : 0);
        }
        x.spins(1);
        check.due("PATIENCE of 2 is gone", x.one(2, 3), 0);
        check.due("PATIENCE of 1", x.one(1, 3), 1);
        check.due("owed(2, 0) a PANE on", x.owed(2, 0), 1);
        check.due("owed(2, 3) a PANE on", x.owed(2, 3), 1);
        check.due("owed(4, 0) a PANE on", x.owed(4, 0), 1);
        check.due("now(4)", x.now(4), 8);
        x.covers(1);
        x.spins(1);
        check.due("under a CLOUD nobody is OWED more", x.now(4), 8);
        check.due("nor has PATIENCE", x.one(0, 3) + x.one(1, 3) + x.one(2, 3), 0);
        check.due("but it is a FEAST", x.now(3), 3);
    }

    private static void limitsOfFeasts() {
        RoseWheel x = Check.told("k0;c1;c2;c3;p0 1;p1 1;p2 1;");
        for (int n = 1; n <= 98; n++) {
            x.spins(3);
        }
        check.due("OWED 98", x.owed(0, 1), 98);
        check.due("PATIENCE 98", x.one(2, 3), 98);
        x.spins(3);
        check.due("OWED 99", x.owed(0, 1), 99);
        check.due("PATIENCE 99", x.one(2, 3), 99);
        x.spins(3);
        check.due("OWED 99 at most", x.owed(0, 1), 99);
        check.due("PATIENCE 99 at most", x.one(2, 3), 99);
        check.due("FEASTS go on", x.now(3), 100);
        // No object comes to 999 FEASTS within 512 calls; this shows only that the limit is there.
        RoseWheel y = Check.told("c1;");
        for (int n = 1; n <= 999; n++) {
            y.spins(1);
        }
        check.due("the 1000th FEAST", y.spins(1), RoseWheel.FULL);
        check.due("BAD is ahead of FULL", y.spins(0), RoseWheel.BAD);
        check.due("999 FEASTS", y.now(3), 999);
    }

    private static void going() {
        RoseWheel x = Check.told("c1;c2;c3;p0 1;p2 2;");
        check.due("goes(0, 1)", x.goes(0, 1), 0);
        check.due("goes(1, 0)", x.goes(1, 0), 2);
        check.due("goes(0, 0)", x.goes(0, 0), RoseWheel.STATE);
        check.due("goes(0, 1), its own", x.goes(0, 1), RoseWheel.STATE);
        check.due("goes(0, 3)", x.goes(0, 3), RoseWheel.BAD);
        check.due("goes(0, -1)", x.goes(0, -1), RoseWheel.BAD);
        check.due("goes(2, 0)", x.goes(2, 0), RoseWheel.BAD);
        check.due("goes(-1, 2)", x.goes(-1, 2), RoseWheel.BAD);
        check.due("one(0, 0)", x.one(0, 0), 1);
        check.due("one(1, 0)", x.one(1, 0), 0);
        check.due("two to undo", x.count(6), 2);
        check.due("no FEAST", x.now(3), 0);
    }

    private static void passing() {
        RoseWheel empty = new RoseWheel();
        check.due("passes(1) without PANES", empty.passes(1), RoseWheel.STATE);
        check.due("passes(12) without PANES", empty.passes(12), RoseWheel.BAD);
        RoseWheel x = Check.told("c1;c2;c3;c4;p3 1;");
        check.due("passes(0)", x.passes(0), RoseWheel.BAD);
        check.due("passes(12)", x.passes(12), RoseWheel.BAD);
        check.due("passes(-1)", x.passes(-1), RoseWheel.BAD);
        check.due("passes(1)", x.passes(1), 1);
        check.due("SPOT 3 stands in PANE 0", x.one(0, 2), 1);
        check.due("passes(11)", x.passes(11), 0);
        check.due("passes(3)", x.passes(3), 3);
        check.due("now(1)", x.now(1), 3);
        check.due("now(0)", x.now(0), 0);
        check.due("spins(1)", x.spins(1), 1);
        check.due("SPOT 3, TURN 1, HOUR 3", x.one(0, 2), 4);
    }

    private static void covering() {
        RoseWheel x = Check.told("c1;c0;c3;p0 1;p1 2;p2 1;");
        check.due("covers(2)", x.covers(2), RoseWheel.BAD);
        check.due("covers(-1)", x.covers(-1), RoseWheel.BAD);
        check.due("covers(0)", x.covers(0), RoseWheel.STATE);
        check.due("covers(1)", x.covers(1), 3);
        check.due("now(2)", x.now(2), 1);
        check.due("covers(1) again", x.covers(1), RoseWheel.STATE);
        check.due("covers(0)", x.covers(0), 1);
        check.due("now(2)", x.now(2), 0);
        check.due("two to undo", x.count(6), 2);
    }

    private static void forgiving() {
        RoseWheel x = Check.told("k0;c1;c2;p0 4;p1 5;");
        check.due("forgives(0, 1), nothing", x.forgives(0, 1), RoseWheel.STATE);
        x.spins(2);
        x.spins(2);
        check.due("forgives(1, 0), nothing", x.forgives(1, 0), RoseWheel.STATE);
        check.due("forgives(0, 0)", x.forgives(0, 0), RoseWheel.BAD);
        check.due("forgives(0, 2)", x.forgives(0, 2), RoseWheel.BAD);
        check.due("forgives(-1, 0)", x.forgives(-1, 0), RoseWheel.BAD);
        check.due("forgives(0, 1)", x.forgives(0, 1), 2);
        check.due("owed(0, 1)", x.owed(0, 1), 0);
        check.due("now(4)", x.now(4), 0);
        check.due("forgives(0, 1) again", x.forgives(0, 1), RoseWheel.STATE);
        check.due("three to undo", x.count(6), 3);
    }

    private static void undoing() {
        RoseWheel x = Check.told("c0;c1;c2;c3;c4;c5;c0;c1;c2;c3;c4;c5;");
        check.due("undo() of nothing", x.undo(), RoseWheel.STATE);
        for (int n = 1; n <= 11; n++) {
            x.passes(1);
            check.due("known of " + n, x.count(6), Math.min(n, 10));
        }
        for (int n = 9; n >= 0; n--) {
            check.due("undo()", x.undo(), n);
            check.due("HOUR then", x.now(1), n + 1);
        }
        check.due("the oldest is lost", x.undo(), RoseWheel.STATE);
        check.due("HOUR is 1", x.now(1), 1);
        check.due("on again", x.passes(3), 4);
        check.due("undo()", x.undo(), 0);
        check.due("HOUR is 1 again", x.now(1), 1);
    }

    private static void undoingEachDeed() {
        RoseWheel x = Check.told("k0;c1;c2;c3;c4;p0 1;p1 2;p2 3;");
        String[] pictures = new String[6];
        pictures[0] = Check.picture(x);
        x.spins(4);
        pictures[1] = Check.picture(x);
        x.goes(1, 3);
        pictures[2] = Check.picture(x);
        x.passes(2);
        pictures[3] = Check.picture(x);
        x.covers(1);
        pictures[4] = Check.picture(x);
        check.due("forgives(0, 1)", x.forgives(0, 1), 1);
        for (int n = 4; n >= 0; n--) {
            check.due("undo()", x.undo(), n);
            check.isTrue("all is as ahead of deed " + n, pictures[n].equals(Check.picture(x)));
        }
        x.saw(0, 1);
        x.hears(2, 2);
        x.spins(1);
        x.undo();
        check.due("SEEN is not undone", x.count(4), 1);
        check.due("HEARD is not undone", x.count(5), 1);
    }

    private static void alike() {
        check.due("ALIKE of 1", Check.told("c3;").now(5), 1);
        check.due("ALIKE of 1 1 1", Check.told("c1;c1;c1;").now(5), 1);
        check.due("ALIKE of 1 2 1 2", Check.told("c1;c2;c1;c2;").now(5), 2);
        check.due("ALIKE of 1 2 1", Check.told("c1;c2;c1;").now(5), 3);
        check.due("ALIKE of 1 1 2 1 1 2", Check.told("c1;c1;c2;c1;c1;c2;").now(5), 3);
        check.due("ALIKE of 1 2 1 2 1", Check.told("c1;c2;c1;c2;c1;").now(5), 5);
        check.due("ALIKE of none", new RoseWheel().now(5), RoseWheel.NONE);
    }

    private static void rings() {
        RoseWheel x = Check.told("k0;c1;c2;c0;p0 1;p1 1;p2 1;");
        x.spins(3);
        check.due("0 is OWED by 1", x.owed(0, 1), 1);
        x.spins(1);
        check.due("2 is OWED by 0", x.owed(2, 0), 1);
        check.due("no RING yet", x.now(6), 0);
        x.spins(1);
        check.due("1 is OWED by 2", x.owed(1, 2), 1);
        check.due("RING of three", x.now(6), 7);
        x.forgives(2, 0);
        check.due("RING broken", x.now(6), 0);

        RoseWheel y = Check.told("k0;c1;c2;c0;c0;p0 1;p1 1;p2 1;");
        y.spins(4);
        y.goes(0, 3);
        y.goes(1, 0);
        y.goes(0, 1);
        y.spins(4);
        check.due("RING of two", y.now(6), 3);
        y.goes(1, 3);
        y.goes(2, 0);
        y.spins(4);
        check.due("2 is OWED by 0", y.owed(2, 0), 1);
        check.due("2 is in no RING", y.now(6), 3);
        ringOfSix();
    }

    private static void ringOfSix() {
        RoseWheel x = Check.told("k0;c1;c2;c0;c0;c0;c0;p0 1;p1 1;p2 1;p3 1;p4 1;p5 1;");
        for (int n = 1; n <= 5; n++) {
            x.spins(1);
            check.due("no RING by " + n + " debts", x.now(6), 0);
        }
        x.spins(1);
        check.due("RING of six", x.now(6), 63);
    }

    private static void nows() {
        RoseWheel x = Check.told("k0;c1;c2;c3;p0 1;p1 1;");
        x.spins(60);
        x.spins(4);
        x.passes(2);
        x.covers(1);
        check.due("now(0)", x.now(0), 1);
        check.due("now(1)", x.now(1), 2);
        check.due("now(2)", x.now(2), 1);
        check.due("now(3)", x.now(3), 2);
        check.due("now(4)", x.now(4), 1);
        check.due("now(7)", x.now(7), RoseWheel.BAD);
        check.due("now(-1)", x.now(-1), RoseWheel.BAD);
    }
}
