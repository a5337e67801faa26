/** Promises 14 to 19: what became of wheels. */
public final class ReadingsTest {
    private static final Due DUE = new Due("ReadingsTest");
    private static final int NONE = CheeseValleys.NONE;

    public static void main(String[] args) {
        refusals();
        numbers();
        withoutReadings();
        oneReading();
        twoReadings();
        readingOfNone();
        nothingStaysChanged();
        tunnels();
        DUE.end();
    }

    private static void refusals() {
        CheeseValleys x = new CheeseValleys();
        DUE.is("reading(8, 0)", x.reading(8, 0), CheeseValleys.OUTSIDE);
        DUE.is("reading(0, 8)", x.reading(0, 8), CheeseValleys.OUTSIDE);
        DUE.is("reading(0, -1)", x.reading(0, -1), CheeseValleys.OUTSIDE);
        DUE.is("reading(NONE, 0)", x.reading(NONE, 0), CheeseValleys.OUTSIDE);
        DUE.is("reading(0, NONE), no land", x.reading(0, NONE), CheeseValleys.STATE);
        DUE.is("back(0), no land", x.back(0), 0);
        DUE.is("back(1), no land", x.back(1), CheeseValleys.OUTSIDE);
        DUE.is("snows(8), no land", x.snows(8), CheeseValleys.OUTSIDE);
        DUE.is("snows(-1), no land", x.snows(-1), CheeseValleys.OUTSIDE);
        DUE.is("snows(0), no land", x.snows(0), CheeseValleys.STATE);
        DUE.is("heights(0), no land", x.heights(0), CheeseValleys.UNKNOWN);
        DUE.is("kinds(0), no land", x.kinds(0), CheeseValleys.UNKNOWN);
        DUE.is("gave(3, 2), no land", x.gave(3, 2), CheeseValleys.UNKNOWN);
        DUE.is("gave(-1, 0), no land", x.gave(-1, 0), CheeseValleys.UNKNOWN);
        DUE.is("gave(0, 2), no land", x.gave(0, 2), CheeseValleys.OUTSIDE);
        DUE.is("gave(0, -1), no land", x.gave(0, -1), CheeseValleys.OUTSIDE);
        DUE.is("gave(0, 0), no land", x.gave(0, 0), CheeseValleys.STATE);
        Due.landBy(x, Due.PLAIN);
        DUE.is("heights(2)", x.heights(2), CheeseValleys.UNKNOWN);
        DUE.is("heights(-1)", x.heights(-1), CheeseValleys.UNKNOWN);
        DUE.is("kinds(2)", x.kinds(2), CheeseValleys.UNKNOWN);
        DUE.is("kinds(-1)", x.kinds(-1), CheeseValleys.UNKNOWN);
    }

    private static void numbers() {
        CheeseValleys x = Due.inLand(Due.PLAIN);
        for (int k = 0; k < 8; k++) {
            DUE.is("reading(7, NONE)", x.reading(7, NONE), k);
        }
        DUE.is("reading(7, NONE), a ninth", x.reading(7, NONE), CheeseValleys.FULL);
        DUE.is("reading(7, -8), a ninth", x.reading(7, -8), CheeseValleys.OUTSIDE);
        DUE.is("many(2)", x.many(2), 8);
        DUE.is("back(9)", x.back(9), CheeseValleys.OUTSIDE);
        DUE.is("back(-1)", x.back(-1), CheeseValleys.OUTSIDE);
        DUE.is("back(3)", x.back(3), 5);
        DUE.is("back(0)", x.back(0), 5);
        DUE.is("reading(7, 0)", x.reading(7, 0), 5);
        DUE.is("back(6)", x.back(6), 0);
        DUE.is("reading(0, 0)", x.reading(0, 0), 0);
    }

    private static void withoutReadings() {
        CheeseValleys x = Due.inLand(Due.MIXED);
        DUE.is("snows(7)", x.snows(7), 1023);
        DUE.is("heights(3)", x.heights(3), 1023);
        DUE.is("kinds(3)", x.kinds(3), 7);
        DUE.is("gave(2, 0)", x.gave(2, 0), 256);
        DUE.is("gave(2, 1)", x.gave(2, 1), 0);
    }

    private static void gave(CheeseValleys x, int valley, int count, int least) {
        DUE.is("gave(" + valley + ", 0)", x.gave(valley, 0), count);
        DUE.is("gave(" + valley + ", 1)", x.gave(valley, 1), least);
    }

    private static void oneReading() {
        CheeseValleys x = Due.inLand(Due.PLAIN);
        x.reading(0, 2);
        DUE.is("snows(0)", x.snows(0), 1);
        DUE.is("snows(1)", x.snows(1), 1);
        DUE.is("snows(2)", x.snows(2), 1023);
        DUE.is("heights(0)", x.heights(0), 1022);
        DUE.is("heights(1)", x.heights(1), 1022);
        DUE.is("kinds(0)", x.kinds(0), 5);
        gave(x, 0, 128, 1);
        gave(x, 1, 128, 2);
        gave(x, 2, 128, 4);
    }

    private static void twoReadings() {
        CheeseValleys x = Due.inLand(Due.PLAIN);
        x.reading(0, 2);
        x.reading(1, 4);
        DUE.is("snows(2)", x.snows(2), 1022);
        DUE.is("snows(0)", x.snows(0), 0);
        DUE.is("heights(0)", x.heights(0), 0);
        DUE.is("kinds(1)", x.kinds(1), 0);
        gave(x, 0, 0, NONE);
        gave(x, 1, 32, 10);
        gave(x, 2, 32, 20);
        x.back(1);
        gave(x, 2, 128, 4);
    }

    private static void readingOfNone() {
        CheeseValleys x = Due.inLand(Due.PLAIN);
        x.reading(0, NONE);
        gave(x, 0, 128, 0);
        // Rennet on day 7 comes too late, on day 0 too soon.
        gave(x, 1, 4, 0);
        gave(x, 2, 4, 0);
        DUE.is("heights(0)", x.heights(0), 1);
        DUE.is("snows(0)", x.snows(0), 0);
        DUE.is("kinds(0)", x.kinds(0), 0);
    }

    private static void nothingStaysChanged() {
        CheeseValleys x = Due.inLand(Due.MIXED);
        x.reading(0, 6);
        x.snows(5);
        x.heights(0);
        x.kinds(1);
        x.gave(1, 0);
        x.odds(2, 0, 7, 0);
        x.hangs(0, 7);
        DUE.is("snow(5, 3)", x.snow(5, 3), 3);
        DUE.is("ofPass(0, 4)", x.ofPass(0, 4), 3);
        DUE.is("ofPass(1, 0)", x.ofPass(1, 0), 1);
        DUE.is("give(1, 170)", x.give(1, 170), 170);
        DUE.is("give(2, 204)", x.give(2, 204), 204);
        DUE.is("many(2)", x.many(2), 1);
        DUE.is("soonest(3)", x.soonest(3), 7);
        DUE.is("trace()", x.trace(), 0);
    }

    private static void tunnels() {
        // Three days as a pass, four as a steep one, two as a tunnel.
        CheeseValleys x = Due.inLand("v00000000;255;255;255,p0131,t1210");
        x.reading(0, 4);
        DUE.is("kinds(0)", x.kinds(0), 1);
        DUE.is("heights(1): a tunnel is always open", x.heights(1), 1023);
        DUE.is("snows(3): a tunnel is always open", x.snows(3), 1023);
        x.back(1);
        x.reading(0, 5);
        DUE.is("kinds(0)", x.kinds(0), 2);
        x.back(1);
        x.reading(0, 3);
        DUE.is("kinds(0)", x.kinds(0), 4);
    }
}
