/** Readings kept and taken back, to the most there can be, while snow, days and the land change. */
final class ReadingsRun {
    private static final int UNKNOWN = CheeseValleys.UNKNOWN, OUTSIDE = CheeseValleys.OUTSIDE;
    private static final int STATE = CheeseValleys.STATE, FULL = CheeseValleys.FULL, NONE = CheeseValleys.NONE;
    private static final int ANY = 1023, ANY_BUT_0 = 1022;

    private final Run run = new Run("readings");

    Run written() {
        run.due(STATE, "reading", 0, 0);
        run.due(0, "back", 0);
        run.due(1, "sheet", 2, 1, 33);
        run.text(2, 0, Due.PLAIN);
        run.due(2, "land", 2, 1, 0, 33);
        for (int day = 0; day < 5; day++) {
            inTime(day);
            aDayLate(day);
        }
        asManyAsThereCanBe();
        whileTheLandChanges();
        anew();
        steep();
        for (int day = 4; day >= 0; day--) {
            aDayLate(day);
            inTime(day);
        }
        asManyAsThereCanBe();
        inTheEnd();
        return run;
    }

    /** A wheel goes over the first pass at once, and over the other one on the next day. */
    private void inTime(int day) {
        run.due(0, "reading", day, day + 2);
        run.due(1, "snows", day);
        run.due(1, "snows", day + 1);
        run.due(ANY, "snows", day + 2);
        run.due(ANY_BUT_0, "heights", 0);
        run.due(ANY_BUT_0, "heights", 1);
        run.due(5, "kinds", 0);
        run.due(128, "gave", 0, 0);
        run.due(1 << day, "gave", 0, 1);
        run.due(1 << day + 1, "gave", 1, 1);
        run.due(1 << day + 2, "gave", 2, 1);
        run.due(OUTSIDE, "reading", day, 8);
        run.due(OUTSIDE, "reading", day, -1);
        run.due(OUTSIDE, "reading", day - 8, day);
        run.due(UNKNOWN, "gave", 3, 0);
        run.due(OUTSIDE, "back", 2);
        run.due(0, "back", 1);
    }

    /** It could wait for a day, for a pass or a valley; no height and no milk makes it a day late. */
    private void aDayLate(int day) {
        run.due(0, "reading", day, day + 3);
        run.due(ANY_BUT_0, "snows", day);
        run.due(ANY_BUT_0, "snows", day + 1);
        run.due(0, "snows", day + 2);
        run.due(0, "heights", 0);
        run.due(2, "kinds", 1);
        run.due(0, "gave", 0, 0);
        run.due(NONE, "gave", 0, 1);
        run.due(64, "gave", 1, 0);
        run.due(1 << day + 2, "gave", 1, 1);
        run.due(1 << day + 3, "gave", 2, 1);
        run.due(UNKNOWN, "heights", 2);
        run.due(0, "back", 1);
    }

    private void asManyAsThereCanBe() {
        for (int number = 0; number < 8; number++) {
            run.due(number, "reading", number, number < 6 ? number + 2 : NONE);
            run.due(number + 1, "many", 2);
        }
        run.due(FULL, "reading", 0, 2);
        run.due(OUTSIDE, "reading", 0, 8);
        run.due(OUTSIDE, "back", 9);
        run.due(8, "many", 2);
        // All passes are used from day 0 to day 6.
        run.each("snows", 1, 1, 1, 1, 1, 1, 1, ANY, OUTSIDE);
        // Milk on days 0 to 5, rennet on 1 to 6, salt on 2 to 7, and on the other days as they like.
        run.due(4, "gave", 0, 0);
        run.due(63, "gave", 0, 1);
        run.due(126, "gave", 1, 1);
        run.due(252, "gave", 2, 1);
        run.due(3, "back", 5);
        run.each("snows", 1, 1, 1, 1, ANY, ANY, ANY, ANY);
        run.due(28, "gave", 2, 1);
        run.due(3, "reading", 6, NONE);
        run.due(3, "back", 1);
        run.due(1, "back", 2);
        run.due(4, "gave", 2, 1);
    }

    /** The one of day 0 is left: what is asked for now is asked of the land as it is now. */
    private void whileTheLandChanges() {
        run.due(0, "snow", 0, 3);
        run.due(1008, "heights", 0);
        run.due(1, "snows", 0);
        run.due(3, "soonest", 0);
        run.due(3, "snow", 0, 0);
        run.due(255, "give", 1, 253);
        run.due(0, "heights", 0);
        run.due(0, "kinds", 0);
        run.due(0, "snows", 7);
        run.due(128, "gave", 1, 0);
        run.due(2, "gave", 1, 1);
        run.due(0, "gave", 2, 0);
        run.due(NONE, "gave", 2, 1);
        run.due(253, "give", 1, 255);
        run.due(ANY_BUT_0, "heights", 0);
        // A text that is not taken leaves them.
        run.due(-132, "land", 2, 1, 0, 32);
        run.due(1, "many", 2);
        run.due(1, "reading", 5, 7);
        run.due(33, "gave", 0, 1);
    }

    private void anew() {
        run.due(2, "land", 2, 1, 0, 33);
        run.due(0, "many", 2);
        run.due(OUTSIDE, "back", 1);
        run.due(ANY, "heights", 0);
        run.due(7, "kinds", 1);
        run.due(256, "gave", 0, 0);
        run.due(0, "gave", 0, 1);
        run.each("snows", ANY, ANY, ANY, ANY, ANY, ANY, ANY, ANY);
    }

    /** The first pass becomes a steep one, which takes a day more, and then what it was. */
    private void steep() {
        run.due(1, "put", 2, 22, 's');
        run.due(2, "land", 2, 1, 0, 33);
        run.each("soonest", 3, 4, 5, 6, 7, NONE, NONE, NONE);
        run.due(0, "reading", 0, 3);
        run.due(2, "kinds", 0);
        run.due(5, "kinds", 1);
        run.due(1, "reading", 4, 7);
        run.due(2, "reading", 5, NONE);
        run.each("snows", 1, ANY, 1, ANY, 1, ANY, 1, ANY);
        run.due(64, "gave", 0, 0);
        run.due(17, "gave", 0, 1);
        run.due(68, "gave", 1, 1);
        run.due(136, "gave", 2, 1);
        run.due(1, "put", 2, 22, 'p');
        run.due(3, "many", 2);
        run.due(2, "land", 2, 1, 0, 33);
        run.due(0, "many", 2);
    }

    /** The one of day 0 is left again. */
    private void inTheEnd() {
        run.due(1, "many", 2);
        run.each("snows", 1, 1, ANY, ANY, ANY, ANY, ANY, ANY);
        run.each("kinds", 5, 5, UNKNOWN);
        run.each("heights", ANY_BUT_0, ANY_BUT_0);
        run.due(0, "back", 1);
        run.due(0, "reading", 7, NONE);
    }
}
