/** Terms ahead of part 1 and promise 30: refusals and faults, their order, and what they leave. */
final class OrderBounds {
    private static final int UNKNOWN = CheeseValleys.UNKNOWN, OUTSIDE = CheeseValleys.OUTSIDE;
    private static final int STATE = CheeseValleys.STATE, FULL = CheeseValleys.FULL;
    private static final int NULL = -11, CAST = -12, INDEX = -13, SIZE = -14;
    private static final String LAND = "v00000000;255;255;255,p0111,s1211";

    private final Cases c;

    OrderBounds(Cases c) {
        this.c = c;
    }

    void run() {
        refusals();
        refusalsChangeNothing();
        faults();
        indexOfNone();
        faultsInOrder();
        answersOfFaults();
        none();
        sets();
        fault();
        faultOfOtherCalls();
    }

    private void ready() {
        c.inLand(LAND);
        c.does("tell", 1);
        c.does("reading", 0, 4);
        c.row(0, 0, 1, 2, 3);
        c.row(1, 1, 4, 9, 5);
    }

    /** Where all that is told behind it is wrong as well, each is answered once those ahead are right. */
    private void refusals() {
        c.terms(0, "REFUSALS, in the order in which a call's line tells them:"
                + " UNKNOWN (there is no such PASS, VALLEY, SHEET, place of a row),"
                + " OUTSIDE (another number is not as told), STATE (as told), FULL");
        c.refused(UNKNOWN, "give", 3, 256);
        c.refused(OUTSIDE, "give", 2, 256);
        c.refused(STATE, "give", 2, 255);
        c.refused(OUTSIDE, "snow", 8, 10);
        c.refused(OUTSIDE, "snow", 7, 10);
        c.refused(STATE, "snow", 7, 9);
        c.refused(UNKNOWN, "gave", 3, 2);
        c.refused(OUTSIDE, "gave", 2, 2);
        c.refused(STATE, "gave", 2, 1);
        c.refused(UNKNOWN, "ofPass", 0, 6);
        c.refused(UNKNOWN, "as", 0, 3);
        for (String name : new String[] {"open", "soonest", "holes", "last", "safe", "snows"}) {
            c.refused(OUTSIDE, name, 8);
            c.refused(STATE, name, 7);
        }
        for (String name : new String[] {"hangs", "peace", "reading"}) {
            c.refused(OUTSIDE, name, 8, 8);
            c.refused(OUTSIDE, name, 7, 8);
            c.refused(STATE, name, 7, 7);
        }
        c.inLand(LAND);
        for (int k = 0; k < 8; k++) {
            c.does("reading", 0, 4);
        }
        c.refused(OUTSIDE, "reading", 8, 8);
        c.refused(OUTSIDE, "reading", 7, 8);
        c.refused(FULL, "reading", 7, 7);
        c.refused(UNKNOWN, "ofPass", 2, 6);
        c.refused(OUTSIDE, "ofPass", 1, 6);
        c.refused(UNKNOWN, "as", 2, 3);
        c.refused(OUTSIDE, "as", 1, 3);
        c.refused(CAST, "as", 1, 2);
    }

    private void refusalsChangeNothing() {
        c.terms(0, "; they change nothing (but fault(), of a call that names FAULTS).");
        ready();
        // Every case of a refusal looks at all that can be seen; here what is named is set as it could be.
        c.refused(OUTSIDE, "snow", 0, 10);
        c.refused(OUTSIDE, "give", 1, 256);
        c.refused(UNKNOWN, "tell", 2);
        c.refused(UNKNOWN, "mark", 2);
        c.refused(OUTSIDE, "reading", 0, 8);
        c.refused(OUTSIDE, "back", 2);
        c.refused(UNKNOWN, "lose", 4);
        c.refused(OUTSIDE, "sheet", 0, 0, 61);
        c.refused(OUTSIDE, "sheet", 0, 3, 60);
        c.refused(UNKNOWN, "put", 4, 0, 7);
        c.refused(UNKNOWN, "copy", 0, 0, 4, 0, 3);
        c.refused(OUTSIDE, "as", 0, 3);
        c.refused(OUTSIDE, "land", 0, 3, 0, 3);
        c.refused(OUTSIDE, "way", 0, 1, 1, 1, 2, 0);
        c.lost(0, "cell", 4, 0, 0);
        c.lost(0, "odds", 0, 0, 7, 0);
    }

    private void faults() {
        c.terms(0, "FAULTS are the machine's: 1 NULL (there is nothing), 2 CAST (it is of another lane, kind)");
        ready();
        c.due(-11, "put", 3, 0, 0);
        c.due(1, "fault");
        c.due(-12, "copy", 0, 0, 1, 0, 1);
        c.due(2, "fault");
        c.due(-12, "as", 0, 1);
        c.due(2, "fault");
        c.terms(0, ", 4 SIZE (a length below 0).");
        ready();
        c.due(-14, "sheet", 0, 0, -1);
        c.due(4, "fault");
        c.due(-14, "land", 0, 0, 0, -1);
        c.due(4, "fault");
    }

    private void indexOfNone() {
        c.terms(0, ", 3 INDEX (of cells from i on also where i is not 0 .. how many there are,"
                + " if none of them is taken, too)");
        ready();
        c.due(-13, "put", 0, 3, 0);
        c.due(3, "fault");
        for (int i = 0; i <= 3; i++) {
            c.refused(-100, "land", 0, 0, i, 0);
            c.due(0, "way", 0, 0, 0, i, 0, 0);
            c.due(0, "copy", 0, i, 0, 0, 0);
            c.due(0, "copy", 0, 0, 0, i, 0);
        }
        for (int i : new int[] {-1, 4, Integer.MIN_VALUE, Integer.MAX_VALUE}) {
            c.refused(INDEX, "land", 0, 0, i, 0);
            c.refused(INDEX, "way", 0, 0, 0, i, 0, 0);
            c.refused(INDEX, "copy", 0, i, 0, 0, 0);
            c.refused(INDEX, "copy", 0, 0, 0, i, 0);
        }
    }

    private void faultsInOrder() {
        c.terms(0, "Of a call the first that is come to, in the order told");
        ready();
        c.refused(UNKNOWN, "land", 4, 3, 9, -1);
        c.refused(OUTSIDE, "land", 1, 3, 9, -1);
        c.refused(CAST, "land", 1, 0, 9, -1);
        c.refused(NULL, "land", 3, 0, 9, -1);
        c.refused(SIZE, "land", 0, 0, 9, -1);
        c.refused(INDEX, "land", 0, 0, 1, 3);
        c.refused(-100, "land", 0, 0, 1, 2);
        c.refused(UNKNOWN, "sheet", 4, 3, -1);
        c.refused(OUTSIDE, "sheet", 0, 3, -1);
        c.refused(SIZE, "sheet", 0, 2, -1);
        c.refused(UNKNOWN, "put", 4, -1, 0);
        c.refused(NULL, "put", 3, -1, 0);
        c.refused(INDEX, "put", 0, -1, 0);
        c.lost(0, "cell", 4, -1, 3);
        c.lost(0, "cell", 1, -1, 3);
        c.lost(2, "cell", 1, -1, 0);
        c.lost(1, "cell", 3, -1, 0);
        c.lost(3, "cell", 0, -1, 0);
        c.refused(UNKNOWN, "copy", 3, -1, 4, -1, -1);
        c.refused(NULL, "copy", 3, -1, 1, -1, -1);
        c.refused(NULL, "copy", 1, -1, 3, -1, -1);
        c.refused(CAST, "copy", 0, -1, 1, -1, -1);
        c.refused(INDEX, "copy", 0, -1, 0, -1, -1);
    }

    private void answersOfFaults() {
        c.terms(0, "; it answers -10 less it (LOST, where a long is answered, as for refusals) and changes nothing;"
                + " fault() tells it.");
        ready();
        c.refused(-10 - 1, "put", 3, 0, 7);
        c.refused(-10 - 1, "copy", 3, 0, 0, 0, 1);
        c.refused(-10 - 2, "copy", 0, 0, 1, 0, 1);
        c.refused(-10 - 2, "as", 0, 2);
        c.refused(-10 - 3, "put", 0, 3, 7);
        c.refused(-10 - 3, "copy", 0, 0, 0, 1, 3);
        c.refused(-10 - 4, "sheet", 0, 0, -1);
        c.lost(1, "cell", 3, 0, 0);
        c.lost(2, "cell", 0, 0, 1);
        c.lost(3, "cell", 0, 3, 0);
        c.lost(0, "cell", 0, 0, 3);
        c.lost(0, "odds", 3, 0, 0, 0);
    }

    private void none() {
        c.terms(0, "NONE is -9.");
        c.inLand(LAND);
        c.due(-9, "soonest", 7);
        c.due(-9, "holes", 7);
        c.due(-9, "last", 0);
        c.due(-9, "safe", 0);
        c.due(-9, "peace", 7, 7);
        c.due(0, "reading", 7, -9);
        c.due(256, "gave", 1, 0);
        c.due(1, "reading", 7, 7);
        c.due(-9, "gave", 1, 1);
        c.row(0, 0, 6);
        c.due(-9, "way", 0, 0, 0, 0, 1, 1);
    }

    private void sets() {
        c.terms(0, "Sets are told as bits (bit k for number k).");
        c.inLand("v00000000;001;002;128,p0111,p0110,p0110,p0110,p0110,t1211");
        c.due(0b100001, "open", 0);
        c.due(0b100001, "hangs", 0, 7);
        c.due(CheeseValleys.NONE, "soonest", 1);
        c.due(7, "soonest", 0);
        c.does("reading", 0, 7);
        c.due(0b0000000001, "snows", 0);
        c.due(0b1111111110, "heights", 0);
        c.due(0b10000000, "gave", 2, 1);
    }

    private void fault() {
        c.promise(30, "The FAULT of the latest call that names one");
        ready();
        c.does("put", 3, 0, 0);
        c.due(1, "fault");
        c.due(1, "fault");
        c.does("as", 0, 1);
        c.due(2, "fault");
        c.does("way", 0, 0, 0, 4, 0, 0);
        c.due(3, "fault");
        c.does("land", 0, 0, 0, -1);
        c.due(4, "fault");
        c.does("cell", 0, 3, 0);
        c.due(3, "fault");
        c.promise(30, ": 0: it came to none, or was refused");
        int[][] fine = {{0, 0, 0, 3}, {0, 0, 0, 0, 2, 0}, {3, 0, 0}, {0, 0, 1}, {0, 0, 0}, {0, 0, 0, 0, 1}, {0, 0}};
        int[][] wrong = {{4, 0, 0, 3}, {0, 0, 0, 0, 21, 0}, {3, 0, 61}, {4, 0, 1}, {0, 0, 3}, {0, 0, 4, 0, 1}, {2, 0}};
        String[] names = {"land", "way", "sheet", "put", "cell", "copy", "as"};
        ready();
        for (int k = 0; k < names.length; k++) {
            c.due(-14, "sheet", 0, 0, -1);
            c.does(names[k], fine[k]);
            c.due(0, "fault");
            c.due(-14, "sheet", 0, 0, -1);
            c.does(names[k], wrong[k]);
            c.due(0, "fault");
        }
        // A way that is refused by its cells or its state, a text that is not taken.
        c.due(-14, "sheet", 0, 0, -1);
        c.due(OUTSIDE, "way", 0, 1, 1, 1, 1, 0);
        c.due(0, "fault");
        c.promise(30, "(0 ahead of any).");
        c.due(0, "fault");
        c.does("soonest", 0);
        c.does("lose", 0);
        c.due(0, "fault");
    }

    private void faultOfOtherCalls() {
        c.promise(30, "The FAULT of the latest call that names one");
        ready();
        c.does("put", 3, 0, 0);
        String[] oneNumber = {
            "open", "soonest", "holes", "last", "safe", "back", "snows", "heights", "kinds", "lose", "tell", "mark",
            "many",
        };
        for (String name : oneNumber) {
            c.does(name, 0);
            c.due(1, "fault");
            c.does(name, 9);
            c.due(1, "fault");
        }
        for (String name : new String[] {"ofPass", "snow", "give", "hangs", "peace", "reading", "gave"}) {
            c.does(name, 0, 1);
            c.due(1, "fault");
            c.does(name, 9, 1);
            c.due(1, "fault");
        }
        c.does("odds", 1, 0, 7, 0);
        c.due(1, "fault");
        c.does("odds", 0, 0, 7, 0);
        c.due(1, "fault");
        c.does("trace");
        c.due(1, "fault");
    }
}
