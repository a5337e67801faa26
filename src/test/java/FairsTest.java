/** Promises 10 to 13 and 20: fairs, odds. */
public final class FairsTest {
    private static final Due DUE = new Due("FairsTest");

    public static void main(String[] args) {
        refusals();
        last();
        safe();
        hangs();
        peace();
        refusalsOfOdds();
        odds();
        DUE.end();
    }

    private static void refusals() {
        CheeseValleys x = new CheeseValleys();
        for (int wrong : new int[] {-1, 8, Integer.MIN_VALUE, Integer.MAX_VALUE}) {
            DUE.is("last(" + wrong + ")", x.last(wrong), CheeseValleys.OUTSIDE);
            DUE.is("safe(" + wrong + ")", x.safe(wrong), CheeseValleys.OUTSIDE);
            DUE.is("hangs(" + wrong + ", 0)", x.hangs(wrong, 0), CheeseValleys.OUTSIDE);
            DUE.is("hangs(0, " + wrong + ")", x.hangs(0, wrong), CheeseValleys.OUTSIDE);
            DUE.is("peace(" + wrong + ", 0)", x.peace(wrong, 0), CheeseValleys.OUTSIDE);
            DUE.is("peace(0, " + wrong + ")", x.peace(0, wrong), CheeseValleys.OUTSIDE);
        }
        DUE.is("last(7), no land", x.last(7), CheeseValleys.STATE);
        DUE.is("safe(7), no land", x.safe(7), CheeseValleys.STATE);
        DUE.is("hangs(0, 7), no land", x.hangs(0, 7), CheeseValleys.STATE);
        DUE.is("peace(0, 7), no land", x.peace(0, 7), CheeseValleys.STATE);
    }

    private static void last() {
        CheeseValleys x = Due.inLand(Due.PLAIN);
        for (int fair = 0; fair < 8; fair++) {
            DUE.is("last(" + fair + ")", x.last(fair), fair < 2 ? CheeseValleys.NONE : fair - 2);
        }
        x.give(0, 0b1011);
        DUE.is("last(7), milk on days 0, 1, 3", x.last(7), 3);
        DUE.is("last(4), milk on days 0, 1, 3", x.last(4), 1);
        x.give(2, 0);
        DUE.is("last(7), no salt", x.last(7), CheeseValleys.NONE);
    }

    private static void safe() {
        CheeseValleys x = Due.inLand(Due.PLAIN);
        // A day more is lost in each of the two valleys.
        for (int fair = 0; fair < 8; fair++) {
            DUE.is("safe(" + fair + ")", x.safe(fair), fair < 4 ? CheeseValleys.NONE : fair - 4);
        }
        x.give(1, 0b10001000);
        DUE.is("safe(7), rennet on days 3, 7", x.safe(7), CheeseValleys.NONE);
        x.give(1, 0b00101000);
        x.give(2, 0b11000000);
        DUE.is("last(7), rennet on days 3, 5, salt on 6, 7", x.last(7), 4);
        DUE.is("safe(7), rennet on days 3, 5, salt on 6, 7", x.safe(7), 2);
        DUE.is("safe(6), rennet on days 3, 5, salt on 6, 7", x.safe(6), CheeseValleys.NONE);
        x.give(1, 0b00001000);
        DUE.is("safe(7), rennet on one day", x.safe(7), CheeseValleys.NONE);
        x.give(1, 0);
        DUE.is("safe(7), no rennet", x.safe(7), CheeseValleys.NONE);
    }

    private static void hangs() {
        CheeseValleys x = Due.inLand(Due.PLAIN);
        DUE.is("hangs(0, 7)", x.hangs(0, 7), 3);
        DUE.is("hangs(0, 2)", x.hangs(0, 2), 3);
        DUE.is("hangs(0, 1): it can't be at all", x.hangs(0, 1), 0);
        DUE.is("hangs(6, 7): it can't be at all", x.hangs(6, 7), 0);
        Due.landBy(x, "v00000000;255;255;255,p0111,p1211,p0131,p2121");
        DUE.is("hangs(0, 2)", x.hangs(0, 2), 3);
        DUE.is("hangs(0, 3)", x.hangs(0, 3), 1);
        DUE.is("hangs(0, 4)", x.hangs(0, 4), 0);
        x.give(0, 0);
        DUE.is("hangs(0, 3), no milk", x.hangs(0, 3), 0);
    }

    private static void peace() {
        CheeseValleys x = Due.inLand(Due.PLAIN);
        DUE.is("peace(0, 7)", x.peace(0, 7), 0);
        DUE.is("peace(0, 1)", x.peace(0, 1), CheeseValleys.NONE);
        x.give(2, 8);
        DUE.is("peace(0, 2), salt on day 3", x.peace(0, 2), 1);
        DUE.is("peace(0, 3), salt on day 3", x.peace(0, 3), 0);
        x.give(1, 8);
        DUE.is("peace(0, 2), both on day 3", x.peace(0, 2), 2);
        DUE.is("peace(0, 3), both on day 3", x.peace(0, 3), 1);
        x.give(0, 2);
        DUE.is("peace(0, 7), no milk", x.peace(0, 7), CheeseValleys.NONE);
        DUE.is("peace(1, 7)", x.peace(1, 7), 1);
    }

    private static void refusalsOfOdds() {
        CheeseValleys x = new CheeseValleys();
        DUE.is("odds, no land", x.odds(1, 0, 7, 0), CheeseValleys.LOST);
        Due.landBy(x, Due.PLAIN);
        DUE.is("odds(0, ..)", x.odds(0, 0, 7, 0), CheeseValleys.LOST);
        DUE.is("odds(3, ..)", x.odds(3, 0, 7, 0), CheeseValleys.LOST);
        DUE.is("odds, day", x.odds(1, 8, 7, 0), CheeseValleys.LOST);
        DUE.is("odds, day below 0", x.odds(1, -1, 7, 0), CheeseValleys.LOST);
        DUE.is("odds, fair", x.odds(1, 0, 8, 0), CheeseValleys.LOST);
        DUE.is("odds, which", x.odds(1, 0, 7, 2), CheeseValleys.LOST);
        DUE.is("odds, which below 0", x.odds(1, 0, 7, -1), CheeseValleys.LOST);
    }

    private static void odds(CheeseValleys x, int valley, int day, int fair, long... due) {
        String call = "odds(" + valley + ", " + day + ", " + fair + ", ";
        DUE.is(call + "0)", x.odds(valley, day, fair, 0), due[0]);
        DUE.is(call + "1)", x.odds(valley, day, fair, 1), due[1]);
    }

    private static void odds() {
        CheeseValleys x = Due.inLand(Due.PLAIN);
        odds(x, 1, 5, 7, 1, 2);
        odds(x, 1, 4, 7, 3, 4);
        odds(x, 2, 0, 7, 63, 64);
        odds(x, 2, 0, 2, 1, 2);
        odds(x, 1, 0, 1, 0, 1);
        odds(x, 1, 6, 7, 0, 1);
        x.give(1, 0b00100010);
        odds(x, 1, 0, 7, 3, 4);
        odds(x, 1, 0, 2, 1, 2);
        odds(x, 2, 0, 7, 63, 64);
        x.give(1, 0);
        odds(x, 1, 0, 7, 0, 1);
        odds(x, 2, 0, 7, 0, 1);
        x.give(1, 255);
        x.give(0, 0);
        odds(x, 1, 0, 7, 0, 1);
    }
}
