/** The boundary cases of spins that are only thought of (the document's part 3), and of promises 15 to 22. */
public final class EdgesSpinsTest {
    private static final int BAD = Edges.BAD, STATE = Edges.STATE, NONE = Edges.NONE;
    private static final String TWELVE = "c0;c1;c2;c3;c4;c5;c0;c1;c2;c3;c4;c5;";
    private static final Edges e = new Edges("EdgesSpinsTest");

    public static void main(String[] args) {
        asIfNoCloud();
        stops();
        shades();
        speeds();
        speedsThatAreRare();
        steps();
        stepsToNone();
        chairs();
        seats();
        seatsOfSix();
        seatsReadAnew();
        odds();
        clicksAsked();
        stopsAsked();
        shadeAsked();
        speedsAsked();
        stepsAsked();
        chairAsked();
        seatsAsked();
        oddsAsked();
        e.end();
    }

    /** So many PANES in lead, but those told are in ruby. */
    private static String rubies(int panes, int... rubies) {
        StringBuilder text = new StringBuilder();
        for (int p = 0; p < panes; p++) {
            int colour = 0;
            for (int ruby : rubies) {
                colour = ruby == p ? 1 : colour;
            }
            text.append('c').append(colour).append(';');
        }
        return text.toString();
    }

    private static void asIfNoCloud() {
        e.says("(Nothing is changed; COLOURS behind a SPIN are as if there were no CLOUD.)");
        e.told("k0;c1;c2;c3;c4;p0 2;p2 4;");
        e.go("spins(2)", "saw(0, 2)");
        for (int cloud = 0; cloud <= 1; cloud++) {
            e.still("clicks(3)", 3);
            e.still("stops(3)", 1);
            e.still("shade(0, 3)", 2);
            e.still("speeds(0, 2, 0)", 15);
            e.still("speeds(0, 2, 1)", 3);
            e.still("speeds(0, 0, 0)", 0);
            e.still("speeds(0, 0, 1)", NONE);
            e.still("steps(0, 2, 3, 0)", 0);
            e.still("steps(0, 0, 3, 0)", NONE);
            e.still("chair(2, 1)", 15);
            e.still("chair(0, 1)", 0);
            e.still("seats(3, -1)", 2);
            e.still("seats(3, 1)", 2);
            e.still("odds(0, 2, 3, 0, 1)", 3);
            e.still("odds(0, 0, 3, 0, 0)", 0);
            e.still("spun(1)", 3);
            e.still("look()", 0);
            e.go("covers(1)");
        }
    }

    private static void stops() {
        e.says("STOPS by v: TURN then.");
        e.told("k0;" + TWELVE);
        e.still("stops(1)", 1);
        e.still("stops(11)", 11);
        e.still("stops(12)", 0);
        e.still("stops(13)", 1);
        e.still("stops(60)", 0);
        e.go("spins(11)", "passes(3)");
        e.still("stops(1)", 0);
        e.still("stops(12)", 11);
        e.still("stops(60)", 11);
        e.told("c1;");
        e.still("stops(1)", 0);
        e.still("stops(60)", 0);
    }

    private static void shades() {
        e.says("SHADE of a SPOT behind a SPIN by v: its COLOUR.");
        e.told("k0;" + TWELVE);
        e.still("shade(0, 1)", 1);
        e.still("shade(11, 1)", 0);
        e.still("shade(0, 60)", 0);
        e.still("shade(11, 60)", 5);
        e.go("spins(11)", "passes(11)");
        // 11, 11 and 11 with no CLICKS more than round, and with 11 more
        e.still("shade(11, 60)", 3);
        e.still("shade(11, 11)", 2);
        e.still("shade(0, 2)", 0);
        e.told("c4;");
        e.still("shade(0, 1)", 4);
        e.still("shade(0, 60)", 4);
    }

    private static void speeds() {
        e.says("SPEEDS for a SPOT and a COLOUR: v (1 .. 60) by which it has it: how many; the least; NONE.");
        e.told("k0;" + rubies(7, 0));
        // 7 14 .. 56; 4 11 .. 60; 1 8 .. 57
        e.still("speeds(0, 1, 0)", 8);
        e.still("speeds(0, 1, 1)", 7);
        e.still("speeds(3, 1, 0)", 9);
        e.still("speeds(3, 1, 1)", 4);
        e.still("speeds(6, 1, 0)", 9);
        e.still("speeds(6, 1, 1)", 1);
        e.still("speeds(6, 0, 0)", 51);
        e.still("speeds(6, 0, 1)", 2);
        e.still("speeds(6, 5, 0)", 0);
        e.still("speeds(6, 5, 1)", NONE);
        e.go("passes(1)");
        e.still("speeds(0, 1, 1)", 6);
        e.go("spins(1)");
        e.still("speeds(0, 1, 1)", 5);
        e.told("c2;");
        e.still("speeds(0, 2, 0)", 60);
        e.still("speeds(0, 2, 1)", 1);
        e.still("speeds(0, 1, 0)", 0);
        e.still("speeds(0, 1, 1)", NONE);
    }

    private static void speedsThatAreRare() {
        // by these laws the wheel never stops 8 on of 10, and 10 on of 12 only by 59
        e.told("k7;d1;" + rubies(10, 8));
        e.still("speeds(0, 1, 0)", 0);
        e.still("speeds(0, 1, 1)", NONE);
        e.told("k2;d1;" + rubies(12, 10));
        e.still("speeds(0, 1, 0)", 1);
        e.still("speeds(0, 1, 1)", 59);
    }

    private static void steps() {
        e.says("STEPS of one for a COLOUR by v: the fewest SPOTS to go, either way round, over whoever is there, to one that nobody else has (its own, too) and has that COLOUR behind it: how many; which (of like ones the lowest); NONE.");
        goesTo("k0;" + rubies(12, 6) + "p0 1;", 12, 6, 6);
        goesTo("k0;" + rubies(12, 7) + "p0 1;", 12, 5, 7);
        goesTo("k0;" + rubies(12, 5) + "p0 1;", 12, 5, 5);
        goesTo("k0;" + rubies(12, 11) + "p0 1;", 12, 1, 11);
        goesTo("k0;" + rubies(12, 0) + "p11 1;", 12, 1, 0);
        goesTo("k0;" + rubies(11, 5, 6) + "p0 1;", 11, 5, 5);
        goesTo("k0;" + rubies(11, 6) + "p0 1;", 11, 5, 6);
        goesTo("k0;" + rubies(12, 1, 11) + "p0 1;", 12, 1, 1);
        goesTo("k0;" + rubies(12, 0, 10) + "p11 1;", 12, 1, 0);
        goesTo("k0;" + rubies(12, 2, 11) + "p0 1;", 12, 1, 11);
        goesTo("k0;" + rubies(12, 4) + "p4 1;", 12, 0, 4);
        goesTo("k0;" + rubies(12, 3, 4, 5) + "p4 1;", 12, 0, 4);
        goesTo("c1;p0 5;", 1, 0, 0);
        goesTo("c1;p0 5;", 60, 0, 0);
        goesTo("k0;" + rubies(12, 2) + "p0 1;p1 1;p11 1;", 12, 2, 2);
        goesTo("k0;" + rubies(12, 1, 9) + "p0 1;p1 1;", 12, 3, 9);
        // by one CLICK the ruby is on the SPOT below, by HOURS too
        goesTo("k0;" + rubies(12, 6) + "p0 1;", 1, 5, 5);
        e.go("passes(1)");
        e.still("steps(0, 1, 1, 1)", 4);
        e.go("spins(5)");
        e.still("steps(0, 1, 1, 1)", 11);
        e.still("steps(0, 1, 1, 0)", 1);
    }

    private static void goesTo(String text, int v, int far, int spot) {
        e.told(text);
        e.still("steps(0, 1, " + v + ", 0)", far);
        e.still("steps(0, 1, " + v + ", 1)", spot);
    }

    private static void stepsToNone() {
        goesTo("k0;" + rubies(12) + "p0 1;", 12, NONE, NONE);
        goesTo("k0;" + rubies(12, 4) + "p0 1;p4 1;", 12, NONE, NONE);
        e.still("steps(1, 1, 12, 0)", 0);
        e.go("goes(1, 5)");
        e.still("steps(0, 1, 12, 0)", 4);
        e.still("steps(1, 1, 12, 0)", 1);
        goesTo("c0;p0 1;", 1, NONE, NONE);
        // wherever the only one is that somebody else has, the first and the last SPOT too
        for (int other = 0; other < 12; other++) {
            int own = other == 6 ? 5 : 6;
            goesTo("k0;" + rubies(12, other) + "p" + own + " 1;p" + other + " 1;", 12, NONE, NONE);
        }
    }

    private static void chairs() {
        e.says("CHAIR for a COLOUR: the SPOT that has it by most v, of like ones the lowest: which; by how many; NONE (no PANES).");
        // of 7 TURNS those by 1 .. 4 CLICKS come 9 times within 60, the others 8 times
        sitsOn("k0;" + rubies(7, 0), 3, 9);
        sitsOn("k0;" + rubies(7, 0, 1, 2, 3), 6, 36);
        sitsOn("k0;" + rubies(7, 1, 2, 3, 4), 0, 36);
        sitsOn("k0;" + rubies(12, 7), 0, 5);
        sitsOn("k0;" + rubies(12), 0, 0);
        sitsOn("c1;", 0, 60);
        sitsOn("c2;", 0, 0);
        sitsOn("", NONE, NONE);
        e.told("k0;" + rubies(7, 0, 1, 2, 3) + "p6 1;");
        e.still("chair(1, 0)", 6);
        e.go("passes(1)");
        e.still("chair(1, 0)", 5);
        e.go("spins(5)");
        e.still("chair(1, 0)", 0);
        e.still("chair(0, 1)", 27);
    }

    private static void sitsOn(String text, int spot, int many) {
        e.told(text);
        e.still("chair(1, 0)", spot);
        e.still("chair(1, 1)", many);
    }

    private static void seats() {
        e.says("SEATS by v: of all ways in which PEOPLE stand on SPOTS, no two on one, that in which most stand in what they WANT behind the SPIN, of several the first (one behind another, the lowest SPOT): how many; where one stands.");
        seated("c1;", 1, 0);
        seated("c1;p0 1;", 1, 1, 0);
        seated("c1;p0 2;", 1, 0, 0);
        seated("k0;" + TWELVE + "p3 5;", 12, 1, 5);
        seated("k0;" + TWELVE + "p3 5;p4 5;", 12, 2, 5, 11);
        seated("k0;" + TWELVE + "p3 5;p4 5;p5 5;", 12, 2, 0, 5, 11);
        seated("k0;" + TWELVE + "p3 5;", 1, 1, 4);
        // whoever can't have it takes the lowest that takes it from nobody behind
        seated("k0;c1;c2;c3;p0 4;p1 1;p2 2;", 3, 2, 2, 0, 1);
        seated("k0;c1;c1;c1;p0 2;p1 1;", 3, 1, 0, 1);
        seated("k0;c1;c0;p0 2;p1 1;", 2, 1, 1, 0);
        seated("k0;c0;c1;p0 1;p1 1;", 2, 1, 0, 1);
        e.told("k0;c1;c2;c3;c4;p0 1;");
        e.go("spins(1)", "passes(1)");
        // SPOTS have 3 4 1 2 behind 4 CLICKS, and 4 1 2 3 behind 5
        e.still("seats(4, 0)", 2);
        e.still("seats(5, 0)", 1);
    }

    /** What one reading had free and wanted is nothing to the next. */
    private static void seatsReadAnew() {
        e.told("k0;c1;c1;c1;c1;p0 1;");
        e.still("seats(4, -1)", 1);
        e.reads("k0;c1;c0;c0;c0;p0 1;p1 1;p2 1;");
        e.still("seats(4, -1)", 1);
        e.still("seats(4, 0)", 0);
        e.still("seats(4, 1)", 1);
        e.reads("k0;c2;c1;c1;c1;p0 1;");
        e.still("seats(4, -1)", 1);
        e.still("seats(4, 0)", 1);
    }

    private static void seated(String text, int v, int most, int... spots) {
        e.told(text);
        e.still("seats(" + v + ", -1)", most);
        for (int p = 0; p < spots.length; p++) {
            e.still("seats(" + v + ", " + p + ")", spots[p]);
        }
        e.still("seats(" + v + ", " + spots.length + ")", BAD);
    }

    private static void seatsOfSix() {
        String people = "p0 1;p1 1;p2 1;p3 1;p4 1;p5 1;";
        seated("k0;" + rubies(12, 6, 7, 8, 9, 10, 11) + people, 12, 6, 6, 7, 8, 9, 10, 11);
        seated("k0;" + rubies(12, 11) + people, 12, 1, 0, 1, 2, 3, 4, 11);
        seated("k0;" + rubies(12) + people, 12, 0, 0, 1, 2, 3, 4, 5);
        seated("k0;" + rubies(6, 0, 1, 2, 3, 4, 5) + people, 6, 6, 0, 1, 2, 3, 4, 5);
        seated("k0;" + rubies(6) + people, 6, 0, 0, 1, 2, 3, 4, 5);
        seated("k0;c5;c4;c3;c2;c1;c0;p0 1;p1 2;p2 3;p3 4;p4 5;p5 1;", 6, 5, 4, 3, 2, 1, 0, 5);
        seated("k0;c5;c4;c3;c2;c1;c0;p0 1;p1 2;p2 3;p3 4;p4 1;p5 5;", 6, 5, 4, 3, 2, 1, 5, 0);
        seated("k0;c5;c5;c5;c1;c2;c3;p0 4;p1 4;p2 4;p3 1;p4 2;p5 3;", 6, 3, 0, 1, 2, 3, 4, 5);
        seated("k0;c1;c2;c3;c5;c5;c5;p0 4;p1 4;p2 4;p3 1;p4 2;p5 3;", 6, 3, 3, 4, 5, 0, 1, 2);
    }

    private static void odds() {
        e.says("ODDS of a SPOT and a COLOUR by m (1 .. 60), x (0 .. 10): v is each of 1 .. m as likely; a CLOUD comes by x of 10, for itself: that it has that COLOUR then: a fraction.");
        e.told("k0;c0;c1;");
        likely("0, 1, 1, 0", 1, 1);
        likely("0, 0, 1, 0", 0, 1);
        likely("0, 1, 1, 10", 0, 1);
        likely("0, 0, 1, 10", 1, 1);
        likely("0, 1, 1, 3", 7, 10);
        likely("0, 0, 1, 3", 3, 10);
        likely("1, 0, 1, 3", 1, 1);
        likely("1, 1, 1, 3", 0, 1);
        likely("0, 1, 2, 0", 1, 2);
        likely("0, 1, 60, 0", 1, 2);
        likely("0, 0, 60, 5", 3, 4);
        likely("0, 1, 60, 5", 1, 4);
        likely("0, 1, 59, 0", 30, 59);
        likely("0, 0, 60, 10", 1, 1);
        likely("0, 5, 60, 0", 0, 1);
        likely("0, 5, 60, 10", 0, 1);
        e.told("k0;c1;c0;c0;");
        likely("0, 1, 59, 1", 171, 590);
        likely("0, 1, 59, 9", 19, 590);
        likely("0, 0, 59, 1", 419, 590);
        likely("0, 1, 60, 9", 1, 30);
        e.go("passes(1)");
        likely("0, 1, 1, 0", 0, 1);
        likely("0, 1, 2, 0", 1, 2);
        e.go("covers(1)");
        likely("0, 1, 2, 0", 1, 2);
        e.told("c1;");
        likely("0, 1, 60, 0", 1, 1);
        likely("0, 1, 60, 1", 9, 10);
        likely("0, 0, 60, 1", 1, 10);
    }

    private static void likely(String numbers, int upper, int lower) {
        e.still("odds(" + numbers + ", 0)", upper);
        e.still("odds(" + numbers + ", 1)", lower);
    }

    private static void clicksAsked() {
        e.says("`int clicks(int v)`: CLICKS. BAD.");
        e.fresh();
        e.still("clicks(1)", 1);
        e.still("clicks(60)", 229);
        e.allStill(BAD, "clicks(0)", "clicks(-1)", "clicks(61)", "clicks(2147483647)", "clicks(-2147483648)");
        e.told("k0;d9;");
        for (int v = 1; v <= 60; v++) {
            e.still("clicks(" + v + ")", v);
        }
    }

    private static void stopsAsked() {
        e.says("`int stops(int v)`: STOPS. BAD; STATE: no PANES.");
        e.told("k0;c1;c2;");
        e.still("stops(1)", 1);
        e.still("stops(60)", 0);
        e.allStill(BAD, "stops(0)", "stops(-1)", "stops(61)", "stops(2147483647)", "stops(-2147483648)");
        e.fresh();
        e.allStill(STATE, "stops(1)", "stops(60)");
        e.allStill(BAD, "stops(0)", "stops(61)");
        e.told("c1;");
        e.times(999, "spins(1)");
        e.still("stops(1)", 0);
    }

    private static void shadeAsked() {
        e.says("`int shade(int spot, int v)`: SHADE. BAD.");
        e.told("k0;c1;c2;");
        e.still("shade(0, 1)", 2);
        e.still("shade(1, 60)", 2);
        e.allStill(BAD, "shade(-1, 1)", "shade(2, 1)", "shade(0, 0)", "shade(0, 61)", "shade(2, 61)", "shade(2147483647, 1)", "shade(0, -2147483648)");
        e.fresh();
        e.still("shade(0, 1)", BAD);
    }

    private static void speedsAsked() {
        e.says("SPEEDS: how many (what = 0), the least (1; NONE). BAD.");
        e.told("k0;c1;c2;");
        e.still("speeds(1, 1, 0)", 30);
        e.still("speeds(1, 1, 1)", 1);
        e.still("speeds(1, 0, 1)", NONE);
        e.still("speeds(1, 5, 1)", NONE);
        e.allStill(BAD, "speeds(-1, 1, 0)", "speeds(2, 1, 0)", "speeds(0, -1, 0)", "speeds(0, 6, 0)", "speeds(0, 1, -1)", "speeds(0, 1, 2)");
        // BAD, though there is none either
        e.allStill(BAD, "speeds(1, 0, 2)", "speeds(2, 0, 1)", "speeds(0, 6, 1)");
    }

    private static void stepsAsked() {
        e.says("STEPS: how many (what = 0), which SPOT (1); NONE. BAD.");
        e.told("k0;c1;c2;c3;p2 1;p1 2;");
        e.still("steps(0, 1, 3, 0)", 1);
        e.still("steps(0, 1, 3, 1)", 0);
        e.still("steps(1, 0, 60, 0)", NONE);
        e.still("steps(1, 0, 60, 1)", NONE);
        e.allStill(BAD, "steps(-1, 1, 3, 0)", "steps(2, 1, 3, 0)", "steps(0, -1, 3, 0)", "steps(0, 6, 3, 0)", "steps(0, 1, 0, 0)",
            "steps(0, 1, 61, 0)", "steps(0, 1, 3, -1)", "steps(0, 1, 3, 2)", "steps(2147483647, 1, 3, 0)");
        e.allStill(BAD, "steps(1, 0, 60, 2)", "steps(1, 0, 61, 0)", "steps(2, 0, 60, 0)");
    }

    private static void chairAsked() {
        e.says("CHAIR: which (what = 0), by how many (1); NONE. BAD.");
        e.told("k0;c1;c2;");
        e.still("chair(1, 0)", 0);
        e.still("chair(1, 1)", 30);
        e.still("chair(5, 0)", 0);
        e.still("chair(5, 1)", 0);
        e.allStill(BAD, "chair(-1, 0)", "chair(6, 0)", "chair(1, -1)", "chair(1, 2)", "chair(2147483647, 0)", "chair(0, -2147483648)");
        e.fresh();
        e.allStill(NONE, "chair(0, 0)", "chair(5, 1)");
        e.allStill(BAD, "chair(-1, 0)", "chair(6, 0)", "chair(1, -1)", "chair(1, 2)");
    }

    private static void seatsAsked() {
        e.says("SEATS: how many have what they WANT (p = -1), where one stands. BAD; STATE: no PANES.");
        e.told("k0;c1;c2;p0 2;");
        e.still("seats(2, -1)", 1);
        e.still("seats(2, 0)", 1);
        e.still("seats(1, 0)", 0);
        e.still("seats(60, 0)", 1);
        e.allStill(BAD, "seats(0, -1)", "seats(61, -1)", "seats(0, 0)", "seats(61, 0)", "seats(1, -2)", "seats(1, 1)", "seats(2147483647, 0)", "seats(1, -2147483648)");
        e.told("c1;");
        e.still("seats(1, -1)", 0);
        e.still("seats(1, 0)", BAD);
        e.fresh();
        e.allStill(STATE, "seats(1, -1)", "seats(60, -1)");
        e.allStill(BAD, "seats(0, -1)", "seats(61, -1)", "seats(1, -2)", "seats(1, 0)");
    }

    private static void oddsAsked() {
        e.says("ODDS: upper (what = 0), lower number (1), in least terms. BAD.");
        e.told("k0;c1;c2;");
        likely("0, 1, 60, 0", 1, 2);
        likely("0, 0, 60, 4", 2, 5);
        likely("0, 3, 60, 4", 0, 1);
        likely("1, 1, 1, 0", 1, 1);
        e.allStill(BAD, "odds(-1, 1, 1, 0, 0)", "odds(2, 1, 1, 0, 0)", "odds(0, -1, 1, 0, 0)", "odds(0, 6, 1, 0, 0)", "odds(0, 1, 0, 0, 0)",
            "odds(0, 1, 61, 0, 0)", "odds(0, 1, 1, -1, 0)", "odds(0, 1, 1, 11, 0)", "odds(0, 1, 1, 0, -1)", "odds(0, 1, 1, 0, 2)",
            "odds(0, 1, -2147483648, 0, 0)", "odds(0, 1, 1, 2147483647, 0)");
        e.fresh();
        e.still("odds(0, 0, 1, 10, 0)", BAD);
    }
}
