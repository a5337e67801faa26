/**
 * Four lands told one after another and over again. Each visit tells the land, asks, keeps readings and
 * changes snow and days of giving: none of that may be left when the next one is told.
 */
final class LandsRun {
    private static final int UNKNOWN = CheeseValleys.UNKNOWN, OUTSIDE = CheeseValleys.OUTSIDE;
    private static final int STATE = CheeseValleys.STATE, NONE = CheeseValleys.NONE;
    private static final int NULL = 1, CAST = 2, INDEX = 3, SIZE = 4;
    private static final String UNEVEN = "v10020000;031;126;252,p0112,s1213,t0235";
    private static final String TUNNELS = "v99999999;001;002;004,t0110,t1210";
    private static final String DEEPER = "v01234567;255;255;255,p0111,p1212,s0213,s0114,t1225,t0236";

    private final Run run = new Run("lands");

    Run written() {
        withoutLand();
        texts();
        plain();
        uneven();
        tunnels();
        deeper();
        tunnels();
        plain();
        deeper();
        uneven();
        // The same one twice: it is made anew all the same.
        uneven();
        plain();
        tunnels();
        inTheEnd();
        return run;
    }

    private void withoutLand() {
        run.each("many", 0, 0, 0, OUTSIDE);
        run.due(STATE, "soonest", 0);
        run.due(UNKNOWN, "tell", 0);
        run.due(OUTSIDE, "back", 1);
        run.fault(NULL, "land", 0, 0, 0, 0);
    }

    private void texts() {
        run.due(1, "sheet", 0, 0, 33);
        run.text(0, 0, Due.PLAIN);
        run.due(1, "sheet", 3, 2, 60);
        run.text(3, 5, UNEVEN);
        run.due(1, "sheet", 1, 1, 33);
        run.text(1, 0, TUNNELS);
        run.due(1, "sheet", 2, 0, 57);
        run.text(2, 0, DEEPER);
        run.due(STATE, "last", 7);
    }

    /** Two passes of a day each, open on all days; all valleys give on all days. */
    private void plain() {
        run.due(2, "land", 0, 0, 0, 33);
        run.each("many", 2, 8, 0);
        run.each("soonest", 2, 3, 4, 5, 6, 7, NONE, NONE);
        run.due(NONE, "safe", 3);
        run.due(3, "safe", 7);
        run.due(0, "reading", 0, 2);
        run.due(1, "reading", 5, 7);
        run.due(1022, "heights", 0);
        run.due(5, "kinds", 1);
        run.due(66, "gave", 1, 1);
        // On day 0 the first pass is closed now, so that the wheel waits a day.
        run.due(0, "snow", 0, 9);
        run.due(3, "soonest", 0);
        run.due(255, "give", 0, 1);
        run.due(0, "last", 7);
        run.due(OUTSIDE, "reading", 8, 0);
        run.fault(CAST, "land", 1, 0, 0, 33);
    }

    /** The first pass is closed on day 3; the steep one and the tunnel take two days. */
    private void uneven() {
        run.due(3, "land", 3, 2, 5, 39);
        run.due(0, "many", 2);
        run.each("soonest", 3, 4, 5, 7, 7, NONE, NONE, NONE);
        run.due(6, "open", 3);
        run.due(1, "holes", 3);
        run.due(2, "last", 6);
        run.due(2, "safe", 7);
        run.due(3, "hangs", 0, 3);
        // From valley 1 back, and through the tunnel: in place of the steep one, a day later.
        run.due(1, "hangs", 0, 4);
        run.due(0, "reading", 0, 3);
        run.due(1, "reading", 3, 7);
        run.due(1020, "snows", 3);
        run.due(4, "heights", 0);
        run.due(1, "kinds", 0);
        run.due(64, "gave", 1, 0);
        run.due(34, "gave", 1, 1);
        run.due(2, "snow", 3, 0);
        run.due(6, "soonest", 3);
        run.due(126, "give", 1, 0);
        run.due(1, "peace", 0, 7);
        run.due(UNKNOWN, "tell", 3);
        run.due(-138, "land", 3, 2, 5, 38);
        run.due(-100, "land", 3, 2, 4, 39);
    }

    /** Deep snow, but tunnels alone, and each valley gives on one day: just in time. */
    private void tunnels() {
        run.due(2, "land", 1, 1, 0, 33);
        run.due(0, "many", 1);
        run.due(3, "open", 7);
        run.due(2, "soonest", 0);
        run.due(NONE, "soonest", 1);
        run.due(NONE, "last", 1);
        run.due(0, "last", 7);
        run.due(NONE, "safe", 7);
        run.due(3, "hangs", 0, 2);
        run.due(2, "odds", 1, 0, 7, 1);
        run.due(0, "reading", 0, 2);
        run.due(4, "kinds", 0);
        run.due(1023, "heights", 0);
        run.due(128, "gave", 2, 0);
        run.due(4, "gave", 2, 1);
        run.due(2, "give", 1, 0);
        run.due(1, "peace", 0, 7);
        run.due(4, "give", 2, 0);
        run.due(2, "peace", 0, 7);
        run.due(0, "odds", 1, 0, 7, 0);
        run.due(1, "odds", 1, 0, 7, 1);
        run.due(UNKNOWN, "ofPass", 2, 0);
        run.fault(SIZE, "land", 1, 1, 0, -1);
    }

    /** Six passes of all kinds; each day the snow is deeper by one. */
    private void deeper() {
        run.due(6, "land", 2, 0, 0, 57);
        run.each("open", 63, 62, 60, 56, 48, 48, 48, 48);
        run.each("soonest", 2, 4, 5, 6, NONE, NONE, NONE, NONE);
        run.due(3, "last", 7);
        run.due(2, "safe", 7);
        run.due(16, "hangs", 3, 7);
        run.due(24, "hangs", 3, 6);
        run.due(103, "tell", 2);
        run.due(110, "tell", 4);
        run.due(3, "mark", 3);
        run.due(80, "mark", 5);
        run.traced(2, 1, 3, 2, 1, 1, 4, 5);
        run.fault(CAST, "as", 1, 1);
        run.due(1, "as", 4, 1);
        run.due(0, "reading", 4, NONE);
        run.due(1, "reading", 3, 6);
        run.due(16, "heights", 3);
        run.due(2, "kinds", 3);
        run.due(1008, "snows", 4);
        // Through the tunnels by valley 2 to valley 1 and back.
        run.due(3, "snow", 3, 9);
        run.due(7, "soonest", 3);
        run.fault(INDEX, "land", 2, 0, 1, 57);
    }

    /** Among the tunnels: what was changed is put back, what was read is taken back. */
    private void inTheEnd() {
        run.due(0, "give", 1, 2);
        run.due(0, "give", 2, 4);
        run.each("soonest", 2, NONE, NONE, NONE, NONE, NONE, NONE, NONE);
        run.due(0, "back", 1);
        run.due(7, "kinds", 0);
        run.due(1023, "heights", 1);
        run.due(0, "gave", 1, 1);
        run.each("many", 2, 0, 0);
        run.traced();
        run.due('v', "cell", 3, 5, 2);
        run.due(0, "fault");
    }
}
