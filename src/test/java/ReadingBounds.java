/** Terms 4 and promises 14 to 19: what became of wheels. */
final class ReadingBounds {
    private static final int UNKNOWN = CheeseValleys.UNKNOWN, OUTSIDE = CheeseValleys.OUTSIDE;
    private static final int STATE = CheeseValleys.STATE, FULL = CheeseValleys.FULL;
    private static final int NONE = CheeseValleys.NONE, HERE = Cases.HERE;
    private static final String PLAIN = Due.PLAIN;
    private static final String HIGH = "v00000000;255;255;255,p0119,p1219";

    private final Cases c;

    ReadingBounds(Cases c) {
        this.c = c;
    }

    void run() {
        numbers();
        alone();
        snows();
        heights();
        kinds();
        gave();
        readingCall();
        backCall();
        snowsCall();
        heightsAndKindsCalls();
        gaveCall();
    }

    private void full() {
        c.inLand(PLAIN);
        for (int day = 0; day < 8; day++) {
            c.does("reading", day, day < 6 ? day + 2 : NONE);
        }
    }

    private void sets(int valley, int count, int least) {
        c.due(count, "gave", valley, 0);
        c.due(least, "gave", valley, 1);
    }

    // ---- the terms

    private void numbers() {
        c.terms(4, "READINGS, 8 at most, numbered by how many there are: a WHEEL of a DAY was DONE on a DAY at the"
                + " SOONEST (NONE: it could not be).");
        c.inLand(PLAIN);
        for (int k = 0; k < 8; k++) {
            c.due(k, "reading", k, k < 6 ? k + 2 : NONE);
            c.due(k + 1, "many", 2);
        }
        c.refused(FULL, "reading", 0, 2);
        c.due(7, "back", 1);
        c.due(7, "reading", 0, 2);
        c.refused(FULL, "reading", 0, 2);
        c.due(0, "back", 8);
        c.due(0, "reading", 0, 2);
        // They may be told again, or go against one another and the land.
        c.due(1, "reading", 0, 2);
        c.due(2, "reading", 0, 7);
        c.due(3, "reading", 7, 0);
    }

    private void alone() {
        c.terms(4, "All that follows: in place of what it is alone, by which all READINGS are so:");
        c.inLand(HIGH);
        c.does("reading", 0, 2);
        c.does("snow", 0, 9);
        c.due(511, "snows", 0);
        // On all other days it is as it is: snow of day 0 keeps the wheel, whatever day 1 has.
        c.due(0, "snows", 1);
        c.does("reading", 0, 3);
        c.due(0, "snows", 0);
        c.does("back", 2);
        c.does("reading", 0, 3);
        c.due(512, "snows", 0);
        c.due(511, "snows", 1);
        c.due(511, "snows", 2);
        c.due(1023, "snows", 3);
        // What it is stays.
        c.due(9, "snow", 0, 9);
        c.due(3, "soonest", 0);
    }

    private void snows() {
        c.terms(4, "SNOWS of a DAY: 0 .. 9, as a set");
        for (int height = 0; height <= 9; height++) {
            c.inLand("v00000000;255;255;255,p011" + height + ",t1210");
            c.does("reading", 0, height == 0 ? NONE : 2);
            int lower = (1 << height) - 1;
            c.due(height == 0 ? 1023 : lower, "snows", 0);
            c.does("back", 1);
            c.does("reading", 0, 3);
            c.due(height == 0 ? 0 : 1023 - lower, "snows", 0);
        }
        c.inLand(HIGH);
        c.does("reading", 5, 7);
        c.due(1023, "snows", 4);
        c.due(511, "snows", 5);
        c.due(511, "snows", 6);
        c.due(1023, "snows", 7);
    }

    private void heights() {
        c.terms(4, "; HEIGHTS of a PASS: 0 .. 9, as a set");
        for (int snow = 0; snow <= 9; snow++) {
            c.inLand(PLAIN);
            c.does("snow", 0, snow);
            c.does("reading", 0, 2);
            c.due(1023 - ((2 << snow) - 1), "heights", 0);
            c.does("back", 1);
            // On all days snow of 0, but on the first: left on the second, by what is no higher than snow.
            c.does("reading", 0, 3);
            c.due((2 << snow) - 2, "heights", 0);
        }
        c.inLand("v99999999;255;255;255,t0110,p1219");
        c.does("reading", 0, NONE);
        c.due(1023, "heights", 0);
        c.due(1023, "heights", 1);
        c.inLand("v00000000;255;255;255" + ",p0111".repeat(5) + ",p1211");
        c.does("reading", 0, 2);
        c.due(1023, "heights", 4);
        c.due(1022, "heights", 5);
    }

    private void kinds() {
        c.terms(4, "; KINDS of a PASS: 0 .. 2, as a set");
        // A day, or two if it is steep; three, four, or two in a tunnel.
        c.inLand("v00000000;255;255;255,p0111,t1211");
        c.does("reading", 0, 2);
        c.due(0b101, "kinds", 0);
        c.does("back", 1);
        c.does("reading", 0, 3);
        c.due(0b010, "kinds", 0);
        c.does("back", 1);
        c.does("reading", 0, 4);
        c.due(0, "kinds", 0);
        c.inLand("v00000000;255;255;255,p0131,t1211");
        for (int done = 3; done <= 5; done++) {
            c.does("reading", 0, done);
            c.due(new int[] {0b100, 0b001, 0b010}[done - 3], "kinds", 0);
            c.does("back", 1);
        }
        // Under snow there is a way by a tunnel alone.
        c.inLand("v99999999;255;255;255,p0111,t1211");
        c.does("reading", 0, NONE);
        c.due(0b011, "kinds", 0);
        c.due(0b111, "kinds", 1);
    }

    private void gave() {
        c.terms(4, "; GAVE of a VALLEY: sets of DAYS (0 .. 255): how many, the least.");
        c.inLand(PLAIN);
        c.does("reading", 0, 2);
        sets(0, 128, 1);
        sets(1, 128, 2);
        sets(2, 128, 4);
        c.does("back", 1);
        c.does("reading", 5, 7);
        sets(0, 128, 32);
        sets(1, 128, 64);
        sets(2, 128, 128);
        full();
        sets(0, 4, 63);
        sets(1, 4, 126);
        sets(2, 4, 252);
        c.inLand(PLAIN);
        c.does("reading", 0, NONE);
        sets(0, 128, 0);
        sets(1, 4, 0);
        sets(2, 4, 0);
        c.does("reading", 0, 2);
        sets(0, 0, NONE);
        sets(1, 0, NONE);
        sets(2, 0, NONE);
    }

    // ---- the calls

    private void readingCall() {
        c.promise(14, "A READING: its number (done NONE: it could not be).");
        c.inLand(PLAIN);
        c.due(0, "reading", 0, 0);
        c.due(1, "reading", 7, 7);
        c.due(2, "reading", 7, NONE);
        c.promise(14, "OUTSIDE: day, done");
        c.outside(OUTSIDE, 0, 7, "reading", HERE, 0);
        c.outside(OUTSIDE, 0, 7, "reading", 0, HERE);
        full();
        c.outside(OUTSIDE, 0, 7, "reading", HERE, NONE);
        c.outside(OUTSIDE, 0, 7, "reading", 7, HERE);
        c.inLand(PLAIN);
        c.outside(OUTSIDE, 0, 7, "reading", HERE, 7);
        c.outside(OUTSIDE, 0, 7, "reading", 0, HERE);
        for (int done = -12; done < 0; done++) {
            if (done != NONE) {
                c.refused(OUTSIDE, "reading", 0, done);
            }
        }
        c.refused(OUTSIDE, "reading", NONE, NONE);
        c.promise(14, "STATE: there is no LAND");
        c.refused(STATE, "reading", 0, 0);
        c.refused(STATE, "reading", 7, 7);
        c.refused(STATE, "reading", 0, NONE);
        c.promise(14, "FULL.");
        full();
        c.refused(FULL, "reading", 0, 0);
        c.refused(FULL, "reading", 7, NONE);
        c.due(7, "back", 1);
        c.due(7, "reading", 0, 0);
    }

    private void backCall() {
        c.promise(15, "The last k READINGS (0 .. as many as there are) are taken back: how many are left.");
        full();
        c.due(8, "back", 0);
        sets(0, 4, 63);
        c.due(7, "back", 1);
        sets(0, 4, 63);
        // Days 6 and 7 told nothing; now day 5 is free, and the day of its rennet.
        c.due(5, "back", 2);
        sets(0, 8, 31);
        sets(1, 8, 62);
        c.due(1, "back", 4);
        sets(0, 128, 1);
        c.due(0, "back", 1);
        sets(0, 256, 0);
        c.due(0, "back", 0);
        full();
        c.due(0, "back", 8);
        c.anew();
        c.due(0, "back", 0);
        c.promise(15, "OUTSIDE.");
        c.outside(OUTSIDE, 0, 0, "back", HERE);
        c.inLand(PLAIN);
        c.outside(OUTSIDE, 0, 0, "back", HERE);
        c.does("reading", 0, 2);
        c.outside(OUTSIDE, 0, 1, "back", HERE);
        full();
        c.outside(OUTSIDE, 0, 8, "back", HERE);
    }

    private void snowsCall() {
        c.promise(16, "SNOWS, as a set.");
        c.inLand(PLAIN);
        for (int day = 0; day < 8; day++) {
            c.due(1023, "snows", day);
        }
        full();
        for (int day = 0; day < 8; day++) {
            c.due(day == 7 ? 1023 : 1, "snows", day);
        }
        new CommonBounds(c).refusalsOfADay(16, "snows");
    }

    private void heightsAndKindsCalls() {
        CommonBounds common = new CommonBounds(c);
        c.promise(17, "HEIGHTS, as a set.");
        passCall("heights", 1023, 1022);
        c.due(1, "ofPass", 0, 4);
        common.refusalsOfAPass(17, "heights");
        c.promise(18, "KINDS, as a set.");
        passCall("kinds", 7, 5);
        c.due(0, "ofPass", 0, 0);
        common.refusalsOfAPass(18, "kinds");
    }

    /** All there are without READINGS, fewer with one. */
    private void passCall(String name, int all, int fewer) {
        c.inLand("v00000000;255;255;255" + ",p0111".repeat(6));
        c.due(all, name, 5);
        c.inLand(PLAIN);
        c.due(all, name, 0);
        c.due(all, name, 1);
        c.does("reading", 0, 2);
        c.due(fewer, name, 0);
        c.due(fewer, name, 1);
    }

    private void gaveCall() {
        c.promise(19, "GAVE: how many (what 0), the least (1; NONE).");
        c.inLand(PLAIN);
        for (int valley = 0; valley < 3; valley++) {
            sets(valley, 256, 0);
        }
        c.does("reading", 7, 7);
        for (int valley = 0; valley < 3; valley++) {
            sets(valley, 0, NONE);
        }
        c.promise(19, "UNKNOWN: VALLEY");
        c.outside(UNKNOWN, 0, 2, "gave", HERE, 2);
        full();
        c.outside(UNKNOWN, 0, 2, "gave", HERE, 0);
        c.outside(UNKNOWN, 0, 2, "gave", HERE, -1);
        c.promise(19, "OUTSIDE");
        c.outside(OUTSIDE, 0, 1, "gave", 0, HERE);
        full();
        for (int valley = 0; valley < 3; valley++) {
            c.outside(OUTSIDE, 0, 1, "gave", valley, HERE);
        }
        c.promise(19, "STATE: there is no LAND.");
        for (int valley = 0; valley < 3; valley++) {
            c.refused(STATE, "gave", valley, 0);
            c.refused(STATE, "gave", valley, 1);
        }
    }
}
