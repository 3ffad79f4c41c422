/** Promises 23 to 29: what was seen and heard, and what follows from it. */
public final class SeenHeardTest {
    private static final int BAD = RoseWheel.BAD, FULL = RoseWheel.FULL, NONE = RoseWheel.NONE;
    private static final Check check = new Check("SeenHeardTest");

    public static void main(String[] args) {
        seeing();
        spinsBySeen();
        seenFromNow();
        looking();
        hearing();
        lawsByHeard();
        trying();
        forgetting();
        check.end();
    }

    private static void seeing() {
        RoseWheel x = Check.told("k0;c1;c2;");
        check.due("saw(2, 1)", x.saw(2, 1), BAD);
        check.due("saw(-1, 1)", x.saw(-1, 1), BAD);
        check.due("saw(0, 6)", x.saw(0, 6), BAD);
        check.due("saw(0, -1)", x.saw(0, -1), BAD);
        for (int n = 1; n <= 6; n++) {
            check.due("saw no. " + n, x.saw(n % 2, n - 1), n);
        }
        check.due("saw no. 7", x.saw(0, 1), FULL);
        check.due("BAD is ahead of FULL", x.saw(2, 1), BAD);
        check.due("count(4)", x.count(4), 6);
        check.due("nothing to undo", x.count(6), 0);
        check.due("saw without PANES", new RoseWheel().saw(0, 0), BAD);
    }

    private static void spinsBySeen() {
        RoseWheel none = new RoseWheel();
        check.due("spun(0) without PANES", none.spun(0), 60);
        check.due("spun(1) without PANES", none.spun(1), 1);
        check.due("spun(2) without PANES", none.spun(2), 60);
        RoseWheel x = Check.told("k0;c1;c2;c2;c1;c0;c0;c0;");
        check.due("spun(3)", x.spun(3), BAD);
        check.due("spun(-1)", x.spun(-1), BAD);
        x.saw(0, 2);
        check.due("spun(0): TURN 1, 2", x.spun(0), 18);
        check.due("spun(1)", x.spun(1), 1);
        check.due("spun(2)", x.spun(2), 58);
        x.saw(1, 1);
        check.due("spun(0): TURN 2", x.spun(0), 9);
        check.due("spun(1)", x.spun(1), 2);
        check.due("spun(2)", x.spun(2), 58);
        x.saw(0, 5);
        check.due("spun(0), none", x.spun(0), 0);
        check.due("spun(1), none", x.spun(1), NONE);
        check.due("spun(2), none", x.spun(2), NONE);
    }

    private static void seenFromNow() {
        RoseWheel x = Check.told("k0;c1;c2;c0;c0;c0;c0;c0;");
        x.saw(0, 2);
        check.due("spun(1) from TURN 0", x.spun(1), 1);
        x.spins(3);
        check.due("spun(1) from TURN 3", x.spun(1), 5);
        x.passes(1);
        check.due("spun(1) from HOUR 1", x.spun(1), 4);
        x.covers(1);
        check.due("spun(1) as if no CLOUD", x.spun(1), 4);
    }

    private static void looking() {
        check.due("look() without PANES", new RoseWheel().look(), NONE);
        RoseWheel x = Check.told("k0;c1;c1;c1;c2;c2;c0;c0;");
        // SPOT s has ruby by TURNS 0 1 2 less s; TURNS 1 .. 4 have 9 speeds, 5 6 0 have 8
        check.due("look(): ruby by 8 + 8 + 8 at SPOT 2", x.look(), 2);
        x.saw(0, 1);
        // TURNS 0 1 2 have 8 9 9: SPOT 0 has one COLOUR by 26, SPOTS 1 and 3 by 17, SPOT 2 by 18
        check.due("look() with ruby at 0", x.look(), 1);
        x.saw(0, 3);
        check.due("look(), no such v", x.look(), NONE);
        check.due("look() of one PANE", Check.told("c4;").look(), 0);
        RoseWheel y = Check.told("k0;c1;c2;c3;c1;c2;c3;");
        check.due("look() of like ones", y.look(), 0);
        y.saw(0, 1);
        check.due("look() when all is known", y.look(), 0);
    }

    private static void hearing() {
        RoseWheel x = new RoseWheel();
        check.due("hears(0, 1)", x.hears(0, 1), BAD);
        check.due("hears(61, 1)", x.hears(61, 1), BAD);
        check.due("hears(1, -1)", x.hears(1, -1), BAD);
        check.due("hears(1, 1000)", x.hears(1, 1000), BAD);
        check.due("hears(1, 0)", x.hears(1, 0), 1);
        check.due("hears(60, 999)", x.hears(60, 999), 2);
        for (int n = 3; n <= 6; n++) {
            check.due("hears no. " + n, x.hears(1, 1), n);
        }
        check.due("hears no. 7", x.hears(1, 1), FULL);
        check.due("BAD is ahead of FULL", x.hears(0, 1), BAD);
        check.due("count(5)", x.count(5), 6);
    }

    private static void lawsByHeard() {
        RoseWheel x = new RoseWheel();
        check.due("laws(2)", x.laws(2), BAD);
        check.due("laws(-1)", x.laws(-1), BAD);
        check.due("laws(0)", x.laws(0), 90);
        check.due("laws(1)", x.laws(1), 1);
        x.hears(60, 382);
        check.due("laws(0), only 9 and 1", x.laws(0), 1);
        check.due("laws(1)", x.laws(1), 91);
        x.hears(60, 381);
        check.due("laws(0), none", x.laws(0), 0);
        check.due("laws(1), none", x.laws(1), NONE);
        x.forget();
        // behind 10 it has KEEPS less DRAG left, and behind 1 nothing by any law
        x.hears(10, 10 + 1);
        check.due("laws(0): KEEPS less DRAG is 1", x.laws(0), 8);
        check.due("laws(1): 2 and 1", x.laws(1), 21);
        RoseWheel y = Check.told("k3;d4;");
        check.due("laws are not those told", y.laws(0), 90);
    }

    private static void trying() {
        RoseWheel x = new RoseWheel();
        check.due("tryNext() with all LAWS", x.tryNext(), 60);
        x.hears(60, 382);
        check.due("tryNext() with one LAW", x.tryNext(), 1);
        x.hears(60, 0);
        check.due("tryNext(), no LAWS", x.tryNext(), NONE);
        x.forget();
        x.hears(10, 11);
        check.due("tryNext() with the LAWS 21, 32 .. 98", x.tryNext(), leastThatTells());
    }

    /** The least v by which the eight LAWS 21, 32 .. 98 have the smallest greatest group, counted plainly. */
    private static int leastThatTells() {
        int best = 0;
        int least = 9;
        for (int v = 1; v <= 60; v++) {
            int greatest = 0;
            for (int a = 2; a <= 9; a++) {
                int group = 0;
                for (int b = 2; b <= 9; b++) {
                    group += sound(v, a, a - 1) == sound(v, b, b - 1) ? 1 : 0;
                }
                greatest = Math.max(greatest, group);
            }
            if (greatest < least) {
                least = greatest;
                best = v;
            }
        }
        return best;
    }

    private static int sound(int v, int keeps, int drag) {
        return v <= 0 ? 0 : v + sound(v * keeps / 10 - drag, keeps, drag);
    }

    private static void forgetting() {
        RoseWheel x = Check.told("c1;");
        check.due("forget() of nothing", x.forget(), 0);
        x.saw(0, 2);
        x.saw(0, 2);
        x.hears(1, 5);
        check.due("forget()", x.forget(), 3);
        check.due("count(4)", x.count(4), 0);
        check.due("count(5)", x.count(5), 0);
        check.due("spun(0)", x.spun(0), 60);
        check.due("laws(0)", x.laws(0), 90);
        check.due("forget() again", x.forget(), 0);
    }
}
