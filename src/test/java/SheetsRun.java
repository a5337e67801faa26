/** Sheets that are made, lost and made anew in all lanes, and lands told from them in between. */
final class SheetsRun {
    private static final int UNKNOWN = CheeseValleys.UNKNOWN, OUTSIDE = CheeseValleys.OUTSIDE;
    private static final int NONE = CheeseValleys.NONE;
    private static final long LOST = CheeseValleys.LOST;
    private static final int NULL = 1, CAST = 2, INDEX = 3, SIZE = 4;
    /** 300 and 70000 as a byte, a short, an int. */
    private static final int[] OF_300 = {44, 300, 300}, OF_70000 = {112, 4464, 70000};

    private final Run run = new Run("sheets");

    Run written() {
        for (int lane = 0; lane < 3; lane++) {
            for (int k = 0; k < 4; k++) {
                madeAndLost(k, lane);
            }
        }
        landWithoutItsText();
        landFromACopy();
        rewrittenText();
        waysInBetween();
        longRow();
        inTheEnd();
        return run;
    }

    private void madeAndLost(int k, int lane) {
        run.due(0, "lose", k);
        run.due(1, "sheet", k, lane, 5);
        run.due(1, "put", k, 4, 300);
        run.due(1, "put", k, 0, 70000);
        run.fault(INDEX, "put", k, 5, 1);
        run.due(OF_300[lane], "cell", k, 4, lane);
        run.due(LOST, "cell", k, 0, (lane + 1) % 3);
        run.due(CAST, "fault");
        // The cells go as they were, not one behind the other.
        run.due(4, "copy", k, 0, k, 1, 4);
        run.due(OF_70000[lane], "cell", k, 1, lane);
        run.due(0, "cell", k, 4, lane);
        run.fault(SIZE, "sheet", k, lane, -1);
        run.refused(OUTSIDE, "sheet", k, 3, 2);
        run.due(OF_70000[lane], "cell", k, 0, lane);
        run.due(1, "lose", k);
        run.fault(NULL, "put", k, 0, 1);
        run.due(1, "sheet", k, lane, 2);
        run.due(0, "cell", k, 1, lane);
        run.due(LOST, "cell", k, 2, lane);
        run.due(INDEX, "fault");
        run.due(1, "lose", k);
    }

    private void landWithoutItsText() {
        run.due(1, "sheet", 1, 2, 33);
        run.text(1, 0, Due.PLAIN);
        run.due(2, "land", 1, 2, 0, 33);
        run.due(0, "reading", 0, 2);
        run.due(1, "lose", 1);
        run.due(2, "soonest", 0);
        run.fault(NULL, "land", 1, 2, 0, 33);
        run.due(1, "sheet", 1, 2, 33);
        // The row is there again, but not what stood in it.
        run.due(-100, "land", 1, 2, 0, 33);
        run.each("many", 2, 8, 1);
        run.due(1022, "heights", 1);
    }

    private void landFromACopy() {
        run.due(1, "sheet", 3, 0, 40);
        run.text(3, 7, "v00000000;255;255;255,s1011,p1211");
        run.fault(CAST, "copy", 3, 7, 1, 0, 33);
        run.fault(NULL, "copy", 3, 7, 2, 0, 33);
        run.due(1, "sheet", 1, 0, 33);
        run.fault(INDEX, "copy", 3, 8, 1, 0, 33);
        run.due(-100, "land", 1, 0, 0, 33);
        run.due(33, "copy", 3, 7, 1, 0, 33);
        run.due(2, "soonest", 0);
        run.due(2, "land", 1, 0, 0, 33);
        run.due(0, "many", 2);
        run.due(3, "soonest", 0);
        run.due(1, "lose", 3);
        run.due(2, "land", 1, 0, 0, 33);
    }

    /** What is put into a sheet changes no land that was taken from it. */
    private void rewrittenText() {
        run.due(1, "put", 1, 22, 't');
        run.due(1, "ofPass", 0, 0);
        run.due(2, "ofPass", 0, 5);
        run.due(2, "land", 1, 0, 0, 33);
        run.due(2, "ofPass", 0, 0);
        run.due(1, "ofPass", 0, 5);
        run.due(2, "soonest", 0);
        run.due(1, "put", 1, 24, '1');
        run.due(-124, "land", 1, 0, 0, 33);
        run.due(0, "ofPass", 0, 2);
    }

    /** In a land of two passes of a day each: over both of them, then there and back over the first. */
    private void waysInBetween() {
        run.due(1, "sheet", 0, 1, 5);
        int[] steps = {0, 7, 6, 1, 8};
        for (int i = 0; i < steps.length; i++) {
            run.due(1, "put", 0, i, steps[i]);
        }
        run.due(3, "way", 0, 0, 1, 0, 5, 0);
        run.due(1, "way", 0, 0, 1, 0, 5, 2);
        run.due(2, "way", 0, 0, 1, 0, 5, 4);
        run.due(0, "way", 7, 0, 1, 0, 5, 1);
        run.due(1, "lose", 0);
        run.fault(NULL, "way", 0, 0, 1, 0, 4, 0);
        run.due(1, "sheet", 0, 2, 4);
        run.fault(CAST, "way", 0, 0, 1, 0, 4, 0);
        run.due(4, "way", 0, 0, 2, 0, 4, 0);
        run.due(0, "way", 0, 0, 2, 0, 4, 3);
        run.due(-102, "way", 5, 0, 2, 0, 4, 0);
        run.fault(INDEX, "way", 0, 0, 2, 1, 4, 0);
        run.due(1, "put", 0, 3, 5);
        run.refused(UNKNOWN, "way", 0, 0, 2, 0, 4, 0);
        run.due(1, "put", 0, 2, 9);
        run.refused(OUTSIDE, "way", 0, 0, 2, 0, 4, 0);
        run.due(2, "way", 0, 0, 2, 0, 2, 0);
        run.due(1, "lose", 0);
    }

    private void longRow() {
        run.due(1, "sheet", 2, 0, 60);
        for (int i = 31; i < 60; i++) {
            run.due(1, "put", 2, i, 100 + i);
        }
        // 159 as a byte.
        run.due(-97, "cell", 2, 59, 0);
        run.due(1, "lose", 2);
        run.due(1, "sheet", 2, 0, 60);
        for (int i = 31; i < 60; i++) {
            run.due(0, "cell", 2, i, 0);
        }
        run.due(1, "lose", 2);
    }

    private void inTheEnd() {
        run.due(1, "lose", 1);
        run.each("lose", 0, 0, 0, 0, UNKNOWN);
        run.each("soonest", 2, 3, 4, 5, 6, 7, NONE, NONE, OUTSIDE);
    }
}
