import java.util.Arrays;

/** Terms 2 and promises 7 to 9: wheels. */
final class WheelBounds {
    private static final int UNKNOWN = CheeseValleys.UNKNOWN, OUTSIDE = CheeseValleys.OUTSIDE;
    private static final int STATE = CheeseValleys.STATE, NONE = CheeseValleys.NONE, HERE = Cases.HERE;
    private static final int NULL = -11, CAST = -12, INDEX = -13;
    private static final int WAITS = 6, RENNET = 7, SALT = 8;
    private static final String PLAIN = Due.PLAIN;
    private static final String SIX = "v00000000;255;255;255,p0121,p0121,p0121,p0121,p0121,t1211";

    private final Cases c;

    WheelBounds(Cases c) {
        this.c = c;
    }

    void run() {
        begins();
        carried();
        waits();
        rennet();
        salt();
        stepNumbers();
        firstWrong();
        soonest();
        fewest();
        fewestNeedsAll();
        soonestAndHolesCalls();
        wayAnswers();
        wayOfTwenty();
        wayBounds();
        wayFaults();
        wayOrder();
        waySteps();
    }

    private static int[] steps(int... steps) {
        return steps;
    }

    /** All five answers of a way: the day, FIRST WRONG, holes, valley, stage. */
    private void way(int day, int[] steps, int... due) {
        c.row(1, 0, steps);
        for (int what = 0; what < 5; what++) {
            c.due(due[what], "way", day, 1, 0, 0, steps.length, what);
        }
    }

    private void wrong(int day, int[] steps, int place) {
        way(day, steps, -100 - place, place, -100 - place, -100 - place, -100 - place);
    }

    // ---- what a wheel can do

    private void begins() {
        c.terms(2, "A WHEEL begins with the milk of VALLEY 0 on a DAY on which it GIVES.");
        c.inLand(PLAIN);
        for (int day = 0; day < 8; day++) {
            c.does("give", 0, 1 << day);
            c.due(day <= 5 ? day + 2 : NONE, "soonest", day);
            c.due(NONE, "soonest", (day + 1) % 8);
            way(day, steps(), day, NONE, 0, 0, 0);
        }
    }

    private void carried() {
        c.terms(2, "It is carried over a PASS from where it is, if that is OPEN on the DAY on which it leaves,"
                + " and it comes by DAY 7");
        c.inLand("v00000000;255;255;255,p0111,p1211,p0221,s0239,t0230");
        way(0, steps(0), 1, NONE, 0, 1, 0);
        way(0, steps(0, 1, 2), 4, NONE, 0, 0, 0);
        wrong(0, steps(1), 0);
        wrong(0, steps(0, 2), 1);
        wrong(0, steps(2, 0), 1);
        // Comes on day 7, would come on day 8.
        way(6, steps(0), 7, NONE, 0, 1, 0);
        wrong(7, steps(0), 0);
        way(5, steps(2), 7, NONE, 0, 2, 0);
        wrong(6, steps(2), 0);
        way(3, steps(3), 7, NONE, 0, 2, 0);
        wrong(4, steps(3), 0);
        way(5, steps(4), 7, NONE, 0, 2, 0);
        wrong(6, steps(4), 0);
        // As high as the snow is closed; on the other days snow does not matter.
        c.does("snow", 2, 1);
        wrong(2, steps(0), 0);
        way(1, steps(2), 3, NONE, 0, 2, 0);
        way(1, steps(0), 2, NONE, 0, 1, 0);
        wrong(1, steps(0, 1), 1);
        c.does("snow", 2, 9);
        wrong(2, steps(3), 0);
        way(2, steps(4), 4, NONE, 0, 2, 0);
    }

    private void waits() {
        c.terms(2, "; it WAITS a DAY where it is (not on DAY 7)");
        c.inLand(PLAIN);
        way(0, steps(WAITS), 1, NONE, 1, 0, 0);
        way(6, steps(WAITS), 7, NONE, 1, 0, 0);
        wrong(7, steps(WAITS), 0);
        wrong(6, steps(WAITS, WAITS), 1);
        way(0, steps(6, 6, 6, 6, 6, 6, 6), 7, NONE, 7, 0, 0);
        wrong(0, steps(6, 6, 6, 6, 6, 6, 6, 6), 7);
        way(0, steps(0, WAITS, 1, WAITS), 4, NONE, 2, 2, 0);
        c.terms(2, "HOLES: how many DAYS it WAITS.");
        c.inLand(PLAIN);
        way(0, steps(0, 1, 1, 0), 4, NONE, 0, 0, 0);
        way(0, steps(0, 6, 7, 6, 1, 6, 8), 5, NONE, 3, 2, 2);
    }

    private void rennet() {
        c.terms(2, "; it gets rennet in VALLEY 1 (once), if that GIVES on that DAY");
        c.inLand(PLAIN);
        way(0, steps(0, RENNET), 1, NONE, 0, 1, 1);
        wrong(0, steps(RENNET), 0);
        wrong(0, steps(0, 1, RENNET), 2);
        wrong(0, steps(0, RENNET, RENNET), 2);
        wrong(0, steps(0, RENNET, WAITS, RENNET), 3);
        c.does("give", 1, 255 - 2);
        wrong(0, steps(0, RENNET), 1);
        way(0, steps(0, WAITS, RENNET), 2, NONE, 1, 1, 1);
        c.does("give", 1, 128);
        way(6, steps(0, RENNET), 7, NONE, 0, 1, 1);
        wrong(5, steps(0, RENNET), 1);
    }

    private void salt() {
        c.terms(2, "; it gets salt in VALLEY 2, if that GIVES on that DAY, when it has rennet: then it is DONE.");
        c.inLand(PLAIN);
        way(0, steps(0, RENNET, 1, SALT), 2, NONE, 0, 2, 2);
        wrong(0, steps(SALT), 0);
        wrong(0, steps(0, 1, SALT), 2);
        wrong(0, steps(0, RENNET, SALT), 2);
        c.does("give", 2, 255 - 4);
        wrong(0, steps(0, RENNET, 1, SALT), 3);
        c.does("give", 2, 128);
        way(5, steps(0, RENNET, 1, SALT), 7, NONE, 0, 2, 2);
        wrong(4, steps(0, RENNET, 1, SALT), 3);
        c.terms(2, "Rennet and salt take no time.");
        c.inLand(PLAIN);
        c.does("give", 1, 64);
        c.does("give", 2, 128);
        c.due(7, "soonest", 5);
        way(5, steps(0, RENNET), 6, NONE, 0, 1, 1);
        way(5, steps(0, RENNET, 1, SALT), 7, NONE, 0, 2, 2);
    }

    private void stepNumbers() {
        c.terms(2, "A WAY: a row of STEPS from a DAY on: 0 .. 5 over that PASS, 6 it WAITS, 7 rennet, 8 salt.");
        c.inLand(SIX);
        for (int p = 0; p < 5; p++) {
            way(0, steps(p), 2, NONE, 0, 1, 0);
        }
        wrong(0, steps(5), 0);
        way(1, steps(0, 5, 5, 7, 6, 5, 8), 7, NONE, 1, 2, 2);
        way(7, steps(), 7, NONE, 0, 0, 0);
    }

    private void firstWrong() {
        c.terms(2, "FIRST WRONG: the first STEP that can't be (all behind salt, too");
        c.inLand(PLAIN);
        wrong(0, steps(6, 1, 0, 7, 8), 1);
        // Behind salt nothing can be, though without it the pass and the waiting could.
        for (int step : steps(0, 1, WAITS, RENNET, SALT)) {
            wrong(0, steps(0, RENNET, 1, SALT, step), 4);
            wrong(0, steps(0, RENNET, 1, SALT, step, WAITS), 4);
        }
        c.terms(2, "; the first, if VALLEY 0 does not GIVE on that DAY).");
        c.inLand(PLAIN);
        c.does("give", 0, 255 - 8);
        wrong(3, steps(6), 0);
        wrong(3, steps(0, 7, 1, 8), 0);
        wrong(3, steps(1, 1), 0);
        way(2, steps(6), 3, NONE, 1, 0, 0);
        way(4, steps(6), 5, NONE, 1, 0, 0);
        // Of no steps there is no first one.
        way(3, steps(), 3, NONE, 0, 0, 0);
    }

    private void soonest() {
        c.terms(2, "SOONEST of a DAY: the first DAY on which a WHEEL of that DAY can be DONE; NONE: it can't.");
        c.inLand(PLAIN);
        int[] due = {2, 3, 4, 5, 6, 7, NONE, NONE};
        for (int day = 0; day < 8; day++) {
            c.due(due[day], "soonest", day);
        }
        // Salt on the first and the last day: too soon, and just in time.
        c.does("give", 2, 128 + 1);
        c.due(7, "soonest", 0);
        c.due(7, "soonest", 5);
        c.due(NONE, "soonest", 6);
        c.does("give", 2, 0);
        c.due(NONE, "soonest", 0);
        c.does("give", 2, 255);
        c.does("give", 1, 0);
        c.due(NONE, "soonest", 0);
        c.does("give", 1, 1);
        c.due(NONE, "soonest", 0);
        c.does("give", 1, 64);
        c.due(7, "soonest", 0);
        c.does("give", 1, 128);
        c.due(NONE, "soonest", 0);
        // No pass into valley 2 at all.
        c.inLand("v00000000;255;255;255" + ",p0119".repeat(6));
        c.due(NONE, "soonest", 0);
    }

    private void fewest() {
        c.terms(2, "FEWEST: the fewest HOLES with which it can be DONE (at any time to DAY 7); NONE.");
        // Back and forth is no waiting: the salt of day 6, not the soonest of day 3.
        c.inLand(PLAIN);
        c.does("give", 2, 64 + 8);
        c.due(3, "soonest", 0);
        c.due(0, "holes", 0);
        c.does("give", 2, 8);
        c.due(1, "holes", 0);
        // The salt of day 7 alone: an odd day, so that one day is waited.
        c.does("give", 2, 128);
        c.due(1, "holes", 0);
        c.due(0, "holes", 5);
        c.due(NONE, "holes", 6);
        // A day to wait for the pass, then back and forth through the tunnel to day 7.
        c.inLand("v90999999;001;004;128,p0115,t1210");
        c.due(1, "holes", 0);
        // Two days to wait for the pass, and two more: the tunnel can be gone through once.
        c.inLand("v99099999;001;008;128,p0115,t1230");
        c.due(4, "holes", 0);
        c.inLand("v99999999;255;255;255,p0119,t1210");
        c.due(NONE, "holes", 0);
    }

    private void fewestNeedsAll() {
        c.terms(2, "FEWEST: the fewest HOLES with which it can be DONE (at any time to DAY 7); NONE.");
        c.inLand(PLAIN);
        for (int day = 0; day < 8; day++) {
            c.does("give", 0, 255 - (1 << day));
            c.due(NONE, "holes", day);
        }
        c.does("give", 0, 255);
        // Valley 1 is come to on day 1: a day waited for rennet on day 2, none for that of day 3.
        c.does("give", 1, 4);
        c.due(1, "holes", 0);
        c.does("give", 1, 8);
        c.due(0, "holes", 0);
        c.does("give", 1, 1 + 128);
        c.due(NONE, "holes", 0);
        c.does("give", 1, 0);
        c.due(NONE, "holes", 0);
        // Salt is come to ahead of rennet: that of day 1 is of no use, that of day 3 is.
        c.inLand("v00000000;255;255;002,p0211,p1211");
        c.due(NONE, "holes", 0);
        c.due(NONE, "soonest", 0);
        c.does("give", 2, 2 + 8);
        c.due(0, "holes", 0);
        c.due(3, "soonest", 0);
        // The sixth pass is one like the others.
        c.inLand(SIX);
        c.due(0, "holes", 0);
        c.due(3, "soonest", 0);
        c.due(NONE, "holes", 5);
        c.due(NONE, "soonest", 5);
    }

    // ---- the calls

    private void soonestAndHolesCalls() {
        c.promise(7, "SOONEST; NONE.");
        c.inLand(PLAIN);
        c.due(2, "soonest", 0);
        c.due(7, "soonest", 5);
        c.due(NONE, "soonest", 6);
        c.due(NONE, "soonest", 7);
        new CommonBounds(c).refusalsOfADay(7, "soonest");
        c.promise(8, "FEWEST; NONE.");
        c.inLand(PLAIN);
        c.due(0, "holes", 0);
        c.due(0, "holes", 5);
        c.due(NONE, "holes", 6);
        c.due(NONE, "holes", 7);
        new CommonBounds(c).refusalsOfADay(8, "holes");
    }

    private void wayAnswers() {
        c.promise(9, "A WAY of n such cells from a DAY on: the DAY then (what 0), its FIRST WRONG (1; NONE), HOLES (2),"
                + " the VALLEY where the WHEEL is (3), 0 without rennet, 1 with it, 2 DONE (4)");
        for (int lane = 0; lane < 3; lane++) {
            for (int k = 0; k < 4; k++) {
                c.inLand(PLAIN);
                c.row(k, lane, 8, 6, 0, 7, 1, 8, 1);
                int[] due = {4, NONE, 1, 2, 2};
                for (int what = 0; what < 5; what++) {
                    c.due(due[what], "way", 1, k, lane, 1, 5, what);
                }
                c.due(0, "fault");
                c.due(0, "way", 1, k, lane, 1, 1, 4);
                c.due(1, "way", 1, k, lane, 1, 3, 4);
                c.due(1, "way", 1, k, lane, 1, 3, 3);
            }
        }
        c.promise(9, "; of one with a FIRST WRONG: -100 less that (but what 1).");
        c.inLand(PLAIN);
        wrong(7, steps(6), 0);
        wrong(0, steps(6, 6, 6, 6, 6, 0, 7, 1, 8, 6), 9);
    }

    private void wayOfTwenty() {
        // Seven days, rennet and salt are all that a wheel can do: the tenth step is wrong at the latest.
        c.promise(9, "n (0 .. 20)");
        c.inLand(PLAIN);
        int[] twenty = new int[60];
        Arrays.fill(twenty, WAITS);
        System.arraycopy(steps(6, 6, 6, 6, 6, 0, 7, 1, 8), 0, twenty, 40, 9);
        c.row(1, 0, twenty);
        c.due(9, "way", 0, 1, 0, 40, 20, 1);
        c.due(-109, "way", 0, 1, 0, 40, 20, 0);
        c.due(7, "way", 0, 1, 0, 40, 9, 0);
        c.due(7, "way", 0, 1, 0, 0, 20, 1);
        c.refused(OUTSIDE, "way", 0, 1, 0, 0, 21, 1);
        c.refused(INDEX, "way", 0, 1, 0, 41, 20, 1);
        c.due(NONE, "way", 0, 1, 0, 60, 0, 1);
        c.outside(OUTSIDE, 0, 20, "way", 0, 1, 0, 0, HERE, 1);
        // A cell that is refused may be the twentieth, but not the one behind.
        c.does("put", 1, 20, 9);
        c.due(7, "way", 0, 1, 0, 0, 20, 1);
        c.refused(OUTSIDE, "way", 0, 1, 0, 1, 20, 1);
    }

    private void ready() {
        c.inLand(PLAIN);
        c.does("reading", 0, 2);
        c.row(0, 0, 6, 6, 6);
        c.row(1, 1, 6, 9, 6);
        c.row(2, 2);
    }

    private void wayBounds() {
        c.promise(9, "OUTSIDE: day;");
        c.outside(OUTSIDE, 0, 7, "way", HERE, 0, 0, 0, 0, 0);
        ready();
        c.due(0, "way", 0, 0, 0, 0, 0, 0);
        c.due(7, "way", 7, 0, 0, 0, 0, 0);
        c.outside(OUTSIDE, 0, 7, "way", HERE, 0, 0, 0, 3, 0);
        c.promise(9, "UNKNOWN: SHEET");
        c.outside(UNKNOWN, 0, 3, "way", 0, HERE, 0, 0, 0, 0);
        ready();
        c.outside(UNKNOWN, 0, 3, "way", 0, HERE, 0, 0, 3, 0);
        c.promise(9, "OUTSIDE: lane, ");
        c.outside(OUTSIDE, 0, 2, "way", 0, 0, HERE, 0, 0, 0);
        ready();
        for (int k = 0; k < 4; k++) {
            c.outside(OUTSIDE, 0, 2, "way", 0, k, HERE, 0, 0, 0);
        }
        c.promise(9, "n (0 .. 20)");
        c.outside(OUTSIDE, 0, 20, "way", 0, 0, 0, 0, HERE, 0);
        ready();
        c.outside(OUTSIDE, 0, 20, "way", 0, 0, 0, 0, HERE, 0);
        c.outside(OUTSIDE, 0, 20, "way", 0, 3, 0, 0, HERE, 0);
        c.promise(9, ", what;");
        c.outside(OUTSIDE, 0, 4, "way", 0, 0, 0, 0, 0, HERE);
        ready();
        c.outside(OUTSIDE, 0, 4, "way", 0, 0, 0, 0, 3, HERE);
        c.outside(OUTSIDE, 0, 4, "way", 0, 0, 0, 0, 0, HERE);
    }

    private void wayFaults() {
        c.promise(9, "FAULTS CAST");
        ready();
        for (int k = 0; k < 3; k++) {
            for (int lane = 0; lane < 3; lane++) {
                c.refused(lane == k ? INDEX : CAST, "way", 0, k, lane, 4, 0, 0);
            }
        }
        c.promise(9, ", NULL");
        ready();
        for (int lane = 0; lane < 3; lane++) {
            c.refused(NULL, "way", 0, 3, lane, 0, 0, 0);
            c.refused(NULL, "way", 0, 3, lane, -1, 20, 0);
        }
        c.promise(9, ", INDEX");
        ready();
        c.due(3, "way", 0, 0, 0, 0, 3, 0);
        c.refused(INDEX, "way", 0, 0, 0, 0, 4, 0);
        c.refused(INDEX, "way", 0, 0, 0, 1, 3, 0);
        c.refused(INDEX, "way", 0, 0, 0, 3, 1, 0);
        c.refused(INDEX, "way", 0, 0, 0, -1, 1, 0);
        c.refused(INDEX, "way", 0, 0, 0, Integer.MAX_VALUE, 20, 0);
        c.refused(INDEX, "way", 0, 0, 0, Integer.MIN_VALUE, 20, 0);
        // Where none is taken, too; a row of no cells has one such place.
        c.due(0, "way", 0, 0, 0, 3, 0, 0);
        c.outside(INDEX, 0, 3, "way", 0, 0, 0, HERE, 0, 0);
        c.due(0, "way", 0, 2, 2, 0, 0, 0);
        c.outside(INDEX, 0, 0, "way", 0, 2, 2, HERE, 0, 0);
        c.refused(INDEX, "way", 0, 2, 2, 0, 1, 0);
    }

    private void wayOrder() {
        // All that is told behind the one that is answered is wrong as well.
        c.promise(9, "; STATE: there is no LAND");
        c.row(0, 0, 9);
        c.row(1, 1, 9);
        c.refused(OUTSIDE, "way", 8, 4, 3, -1, 21, 5);
        c.refused(UNKNOWN, "way", 0, 4, 3, -1, 21, 5);
        c.refused(OUTSIDE, "way", 0, 1, 3, -1, 20, 4);
        c.refused(OUTSIDE, "way", 0, 1, 0, -1, 21, 4);
        c.refused(OUTSIDE, "way", 0, 1, 0, -1, 20, 5);
        c.refused(CAST, "way", 0, 1, 0, -1, 20, 4);
        c.refused(NULL, "way", 0, 3, 0, -1, 20, 4);
        c.refused(INDEX, "way", 0, 0, 0, -1, 20, 4);
        c.refused(INDEX, "way", 0, 0, 0, 0, 2, 4);
        c.refused(STATE, "way", 0, 0, 0, 0, 1, 4);
        c.refused(STATE, "way", 7, 0, 0, 1, 0, 0);
        c.text(PLAIN);
        c.does("land", 0, 0, 0, PLAIN.length());
        c.due(OUTSIDE, "way", 0, 1, 1, 0, 1, 4);
    }

    private void waySteps() {
        c.promise(9, "; UNKNOWN: a STEP over no PASS");
        c.inLand(PLAIN);
        c.row(0, 2, 6, 1, 2, 3, 4, 5);
        c.due(0, "way", 0, 0, 2, 0, 1, 4);
        c.due(1, "way", 0, 0, 2, 0, 2, 1);
        for (int i = 2; i < 6; i++) {
            c.refused(UNKNOWN, "way", 0, 0, 2, i, 1, 1);
        }
        c.inLand(SIX);
        c.row(0, 2, 5, 6);
        c.due(0, "way", 0, 0, 2, 0, 1, 1);
        c.due(1, "way", 0, 0, 2, 1, 1, 0);
        c.promise(9, "(OUTSIDE: not 0 .. 8, ahead of that), cell by cell.");
        c.inLand(PLAIN);
        for (int step : Cases.beyond(0, 8)) {
            c.row(0, 2, step);
            c.refused(OUTSIDE, "way", 0, 0, 2, 0, 1, 1);
        }
        c.row(0, 2, 8, 7, 6, 0, 1);
        c.due(0, "way", 0, 0, 2, 0, 5, 1);
        // Of two such cells the first one tells, ahead of all that can't be.
        c.row(0, 2, 1, 2, 9, 5, -1);
        c.refused(UNKNOWN, "way", 0, 0, 2, 0, 5, 1);
        c.refused(UNKNOWN, "way", 0, 0, 2, 1, 2, 1);
        c.refused(OUTSIDE, "way", 0, 0, 2, 2, 3, 0);
        c.refused(UNKNOWN, "way", 0, 0, 2, 3, 2, 0);
        c.refused(OUTSIDE, "way", 0, 0, 2, 4, 1, 0);
        c.does("give", 0, 0);
        c.refused(UNKNOWN, "way", 0, 0, 2, 0, 2, 1);
    }
}
