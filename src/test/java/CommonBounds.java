/** Refusals that several promises tell in the same words. */
final class CommonBounds {
    private static final int UNKNOWN = CheeseValleys.UNKNOWN, OUTSIDE = CheeseValleys.OUTSIDE;
    private static final int STATE = CheeseValleys.STATE, HERE = Cases.HERE;
    private static final String THREE = "v00000000;255;255;255,p0113,s1214,t0215";

    private final Cases c;

    CommonBounds(Cases c) {
        this.c = c;
    }

    /** Of a call by one DAY (or fair) alone that wants a LAND. */
    void refusalsOfADay(int promise, String name) {
        c.promise(promise, "OUTSIDE");
        c.outside(OUTSIDE, 0, 7, name, HERE);
        inLandWithReading();
        c.outside(OUTSIDE, 0, 7, name, HERE);
        c.promise(promise, "STATE: there is no LAND.");
        for (int day = 0; day < 8; day++) {
            c.refused(STATE, name, day);
        }
        // A text that is not taken makes none.
        c.text(Due.PLAIN + ",");
        c.due(-134, "land", 0, 0, 0, 34);
        c.refused(STATE, name, 0);
    }

    /** Of a call by a DAY and a fair that wants a LAND. */
    void refusalsOfADayAndAFair(int promise, String name) {
        c.promise(promise, "OUTSIDE: day, fair");
        c.outside(OUTSIDE, 0, 7, name, HERE, 0);
        c.outside(OUTSIDE, 0, 7, name, 0, HERE);
        inLandWithReading();
        c.outside(OUTSIDE, 0, 7, name, HERE, 7);
        c.outside(OUTSIDE, 0, 7, name, 7, HERE);
        c.outside(OUTSIDE, 0, 7, name, HERE, HERE);
        c.promise(promise, "STATE: there is no LAND.");
        c.refused(STATE, name, 0, 0);
        c.refused(STATE, name, 0, 7);
        c.refused(STATE, name, 7, 0);
        c.refused(STATE, name, 7, 7);
    }

    /** Of a call by a PASS alone: without a land, with three, with one where there were more, with six. */
    void refusalsOfAPass(int promise, String name) {
        c.promise(promise, "UNKNOWN.");
        c.outside(UNKNOWN, 0, -1, name, HERE);
        inLandWithReading();
        c.outside(UNKNOWN, 0, 2, name, HERE);
        c.text(THREE);
        c.does("land", 0, 0, 0, 27);
        c.outside(UNKNOWN, 0, 0, name, HERE);
        c.inLand("v00000000;255;255;255" + ",t0119".repeat(6));
        c.outside(UNKNOWN, 0, 5, name, HERE);
    }

    private void inLandWithReading() {
        c.inLand(THREE);
        c.does("tell", 1);
        c.does("reading", 0, 2);
    }
}
