/** Promises 15 to 22: what a spin would bring. */
public final class SpinsTest {
    private static final int BAD = RoseWheel.BAD, STATE = RoseWheel.STATE, NONE = RoseWheel.NONE;
    private static final Check check = new Check("SpinsTest");

    public static void main(String[] args) {
        clicks();
        stops();
        shades();
        speeds();
        steps();
        chairs();
        seats();
        odds();
        nothingIsChanged();
        check.end();
    }

    private static void clicks() {
        RoseWheel x = new RoseWheel();
        check.due("clicks(0)", x.clicks(0), BAD);
        check.due("clicks(61)", x.clicks(61), BAD);
        check.due("clicks(1): 1", x.clicks(1), 1);
        check.due("clicks(5): 5 3 1", x.clicks(5), 9);
        check.due("clicks(10): 10 7 4 2", x.clicks(10), 23);
        check.due("KEEPS 0", Check.told("k0;").clicks(60), 60);
        check.due("KEEPS 9", Check.told("k9;").clicks(60), 382);
        check.due("KEEPS 5, DRAG 9: 60 21 1", Check.told("k5;d9;").clicks(60), 82);
        check.due("KEEPS 5, DRAG 2: 4 and 0", Check.told("k5;d2;").clicks(4), 4);
    }

    private static void stops() {
        check.due("stops(1) without PANES", new RoseWheel().stops(1), STATE);
        check.due("stops(0) without PANES", new RoseWheel().stops(0), BAD);
        RoseWheel x = Check.told("c0;c1;c2;c3;c4;c5;c0;");
        check.due("stops(61)", x.stops(61), BAD);
        check.due("stops(5)", x.stops(5), 2);
        x.spins(10);
        x.passes(3);
        check.due("stops(5) from 2, whatever the HOUR", x.stops(5), 4);
    }

    private static void shades() {
        RoseWheel x = Check.told("k0;c1;c2;c3;c4;p0 1;");
        check.due("shade(0, 1)", x.shade(0, 1), 2);
        check.due("shade(3, 1)", x.shade(3, 1), 1);
        x.spins(2);
        x.passes(1);
        check.due("shade(0, 1) from TURN 2, HOUR 1", x.shade(0, 1), 1);
        x.covers(1);
        check.due("shade(0, 1) as if no CLOUD", x.shade(0, 1), 1);
        check.due("shade(4, 1)", x.shade(4, 1), BAD);
        check.due("shade(-1, 1)", x.shade(-1, 1), BAD);
        check.due("shade(0, 0)", x.shade(0, 0), BAD);
        check.due("shade(0, 61)", x.shade(0, 61), BAD);
        check.due("shade(0, 1) without PANES", new RoseWheel().shade(0, 1), BAD);
    }

    private static void speeds() {
        RoseWheel x = Check.told("k0;c1;c2;c3;c0;c0;c0;c0;");
        check.due("speeds(0, 2, 0): 1 8 .. 57", x.speeds(0, 2, 0), 9);
        check.due("speeds(0, 2, 1)", x.speeds(0, 2, 1), 1);
        check.due("speeds(0, 1, 0): 7 14 .. 56", x.speeds(0, 1, 0), 8);
        check.due("speeds(0, 1, 1)", x.speeds(0, 1, 1), 7);
        check.due("speeds(0, 4, 0)", x.speeds(0, 4, 0), 0);
        check.due("speeds(0, 4, 1)", x.speeds(0, 4, 1), NONE);
        check.due("speeds(0, 0, 0)", x.speeds(0, 0, 0), 34);
        check.due("speeds(0, 2, 2)", x.speeds(0, 2, 2), BAD);
        check.due("speeds(0, 2, -1)", x.speeds(0, 2, -1), BAD);
        check.due("speeds(0, 6, 0)", x.speeds(0, 6, 0), BAD);
        check.due("speeds(0, -1, 0)", x.speeds(0, -1, 0), BAD);
        check.due("speeds(7, 0, 0)", x.speeds(7, 0, 0), BAD);
        x.passes(1);
        x.covers(1);
        check.due("speeds(0, 1, 1) an HOUR on, under a CLOUD", x.speeds(0, 1, 1), 6);
    }

    private static void steps() {
        // by speed 8 all is as it stands now: green on 2, 4 and 6
        RoseWheel x = Check.told("k0;c1;c0;c3;c0;c3;c0;c3;c0;p3 1;p0 1;p6 1;");
        check.due("steps(0, 3, 8, 0)", x.steps(0, 3, 8, 0), 1);
        check.due("steps(0, 3, 8, 1), the lowest of like ones", x.steps(0, 3, 8, 1), 2);
        check.due("steps(1, 3, 8, 0), 6 is had", x.steps(1, 3, 8, 0), 2);
        check.due("steps(1, 3, 8, 1), 6 is had", x.steps(1, 3, 8, 1), 2);
        check.due("steps(2, 3, 8, 0), its own", x.steps(2, 3, 8, 0), 0);
        check.due("steps(2, 3, 8, 1), its own", x.steps(2, 3, 8, 1), 6);
        check.due("steps(2, 1, 8, 0), only another's", x.steps(2, 1, 8, 0), NONE);
        check.due("steps(2, 1, 8, 1), only another's", x.steps(2, 1, 8, 1), NONE);
        check.due("steps(2, 0, 8, 1), 7 and 5 are as near", x.steps(2, 0, 8, 1), 5);
        check.due("steps(0, 4, 8, 0)", x.steps(0, 4, 8, 0), NONE);
        x.goes(1, 7);
        check.due("steps(2, 1, 8, 0) over 7 round", x.steps(2, 1, 8, 0), 2);
        check.due("steps(2, 1, 8, 1)", x.steps(2, 1, 8, 1), 0);
        x.covers(1);
        check.due("steps(2, 1, 8, 1) as if no CLOUD", x.steps(2, 1, 8, 1), 0);
        check.due("steps(3, 1, 8, 0)", x.steps(3, 1, 8, 0), BAD);
        check.due("steps(-1, 1, 8, 0)", x.steps(-1, 1, 8, 0), BAD);
        check.due("steps(0, 6, 8, 0)", x.steps(0, 6, 8, 0), BAD);
        check.due("steps(0, -1, 8, 0)", x.steps(0, -1, 8, 0), BAD);
        check.due("steps(0, 1, 0, 0)", x.steps(0, 1, 0, 0), BAD);
        check.due("steps(0, 1, 61, 0)", x.steps(0, 1, 61, 0), BAD);
        check.due("steps(0, 1, 8, 2)", x.steps(0, 1, 8, 2), BAD);
        check.due("steps(0, 1, 8, -1)", x.steps(0, 1, 8, -1), BAD);
    }

    private static void chairs() {
        RoseWheel none = new RoseWheel();
        check.due("chair(0, 0) without PANES", none.chair(0, 0), NONE);
        check.due("chair(0, 1) without PANES", none.chair(0, 1), NONE);
        check.due("chair(6, 0) without PANES", none.chair(6, 0), BAD);
        // of 60 speeds each TURN of 7 has 8, and 1 .. 4 have 9
        RoseWheel x = Check.told("k0;c1;c2;c2;c0;c0;c0;c0;p3 1;");
        check.due("chair(1, 0): TURNS 7 - SPOT", x.chair(1, 0), 3);
        check.due("chair(1, 1)", x.chair(1, 1), 9);
        check.due("chair(2, 0)", x.chair(2, 0), 0);
        check.due("chair(2, 1)", x.chair(2, 1), 18);
        check.due("chair(5, 0)", x.chair(5, 0), 0);
        check.due("chair(5, 1)", x.chair(5, 1), 0);
        check.due("chair(-1, 0)", x.chair(-1, 0), BAD);
        check.due("chair(6, 0)", x.chair(6, 0), BAD);
        check.due("chair(1, 2)", x.chair(1, 2), BAD);
        check.due("chair(1, -1)", x.chair(1, -1), BAD);
    }

    private static void seats() {
        check.due("seats(1, -1) without PANES", new RoseWheel().seats(1, -1), STATE);
        check.due("seats(1, 0) without PEOPLE", new RoseWheel().seats(1, 0), BAD);
        check.due("seats(0, -1) without PANES", new RoseWheel().seats(0, -1), BAD);
        check.due("seats(1, -1) without PEOPLE", Check.told("c1;").seats(1, -1), 0);
        // by speed 6 the SPOTS have 1 2 1 3 0 0
        RoseWheel x = Check.told("k0;c1;c2;c1;c3;c0;c0;p5 4;p4 1;p3 3;p2 1;p1 1;");
        check.due("seats(6, -1)", x.seats(6, -1), 3);
        check.due("seats(6, 0), the lowest that takes nothing", x.seats(6, 0), 1);
        check.due("seats(6, 1)", x.seats(6, 1), 0);
        check.due("seats(6, 2)", x.seats(6, 2), 3);
        check.due("seats(6, 3)", x.seats(6, 3), 2);
        check.due("seats(6, 4), what is left", x.seats(6, 4), 4);
        check.due("seats(6, 5)", x.seats(6, 5), BAD);
        check.due("seats(6, -2)", x.seats(6, -2), BAD);
        check.due("seats(61, -1)", x.seats(61, -1), BAD);
        // three want ruby and two SPOTS have it: the first may stand aside if that is lower
        RoseWheel y = Check.told("k0;c0;c1;c1;c0;p0 1;p1 1;p2 1;");
        check.due("seats(4, -1)", y.seats(4, -1), 2);
        check.due("seats(4, 0)", y.seats(4, 0), 0);
        check.due("seats(4, 1)", y.seats(4, 1), 1);
        check.due("seats(4, 2)", y.seats(4, 2), 2);
        y.passes(1);
        y.covers(1);
        check.due("seats(4, 0) an HOUR on", y.seats(4, 0), 0);
        check.due("seats(4, 1) an HOUR on", y.seats(4, 1), 1);
        check.due("seats(4, 2) an HOUR on", y.seats(4, 2), 2);
        check.due("seats(5, 0) two PANES on", y.seats(5, 0), 0);
        check.due("seats(5, 1) two PANES on", y.seats(5, 1), 1);
        check.due("seats(5, 2) two PANES on", y.seats(5, 2), 3);
    }

    private static void odds() {
        RoseWheel x = Check.told("k0;c0;c1;c2;c3;");
        check.due("odds(0, 1, 4, 0, 0)", x.odds(0, 1, 4, 0, 0), 1);
        check.due("odds(0, 1, 4, 0, 1)", x.odds(0, 1, 4, 0, 1), 4);
        check.due("odds(0, 1, 5, 5, 0)", x.odds(0, 1, 5, 5, 0), 1);
        check.due("odds(0, 1, 5, 5, 1): 2 of 5, by half", x.odds(0, 1, 5, 5, 1), 5);
        check.due("odds(0, 0, 4, 5, 0): 5 + 5 * 4 of 40", x.odds(0, 0, 4, 5, 0), 5);
        check.due("odds(0, 0, 4, 5, 1)", x.odds(0, 0, 4, 5, 1), 8);
        check.due("odds(0, 0, 3, 3, 0): 9 of 30", x.odds(0, 0, 3, 3, 0), 3);
        check.due("odds(0, 0, 3, 3, 1)", x.odds(0, 0, 3, 3, 1), 10);
        check.due("odds(0, 0, 60, 10, 0)", x.odds(0, 0, 60, 10, 0), 1);
        check.due("odds(0, 0, 60, 10, 1)", x.odds(0, 0, 60, 10, 1), 1);
        check.due("odds(0, 1, 60, 10, 0)", x.odds(0, 1, 60, 10, 0), 0);
        check.due("odds(0, 1, 60, 10, 1)", x.odds(0, 1, 60, 10, 1), 1);
        check.due("odds(0, 3, 1, 7, 0)", x.odds(0, 3, 1, 7, 0), 0);
        check.due("odds(0, 3, 1, 7, 1)", x.odds(0, 3, 1, 7, 1), 1);
        x.covers(1);
        check.due("odds(0, 1, 4, 0, 0) as if no CLOUD", x.odds(0, 1, 4, 0, 0), 1);
        check.due("odds(4, 1, 4, 0, 0)", x.odds(4, 1, 4, 0, 0), BAD);
        check.due("odds(-1, 1, 4, 0, 0)", x.odds(-1, 1, 4, 0, 0), BAD);
        check.due("odds(0, 6, 4, 0, 0)", x.odds(0, 6, 4, 0, 0), BAD);
        check.due("odds(0, -1, 4, 0, 0)", x.odds(0, -1, 4, 0, 0), BAD);
        check.due("odds(0, 1, 0, 0, 0)", x.odds(0, 1, 0, 0, 0), BAD);
        check.due("odds(0, 1, 61, 0, 0)", x.odds(0, 1, 61, 0, 0), BAD);
        check.due("odds(0, 1, 4, -1, 0)", x.odds(0, 1, 4, -1, 0), BAD);
        check.due("odds(0, 1, 4, 11, 0)", x.odds(0, 1, 4, 11, 0), BAD);
        check.due("odds(0, 1, 4, 0, 2)", x.odds(0, 1, 4, 0, 2), BAD);
        check.due("odds(0, 1, 4, 0, -1)", x.odds(0, 1, 4, 0, -1), BAD);
        check.due("odds without PANES", new RoseWheel().odds(0, 1, 4, 0, 0), BAD);
    }

    private static void nothingIsChanged() {
        RoseWheel x = Check.told("c1;c2;c3;p0 1;p1 2;");
        x.spins(9);
        String before = Check.picture(x);
        x.clicks(9);
        x.stops(9);
        x.shade(1, 9);
        x.speeds(1, 1, 0);
        x.steps(0, 3, 9, 0);
        x.chair(1, 0);
        x.seats(9, -1);
        x.seats(9, 1);
        x.odds(1, 1, 9, 1, 0);
        check.isTrue("nothing is changed", before.equals(Check.picture(x)));
    }
}
