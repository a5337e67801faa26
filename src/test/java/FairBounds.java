/** Terms 3 and 4, promises 10 to 13 and 20: fairs, odds. */
final class FairBounds {
    private static final int NONE = CheeseValleys.NONE, HERE = Cases.HERE;
    private static final String PLAIN = Due.PLAIN;

    private final Cases c;

    FairBounds(Cases c) {
        this.c = c;
    }

    void run() {
        last();
        safe();
        safeBothAtOnce();
        hangs();
        peace();
        shares();
        odds();
        callsOfAFair();
        callsOfADayAndAFair();
        oddsCall();
    }

    private void last() {
        c.terms(3, "LAST for a fair on a DAY: the last DAY of milk of which a WHEEL can be DONE by the fair");
        c.inLand(PLAIN);
        int[] due = {NONE, NONE, 0, 1, 2, 3, 4, 5};
        for (int fair = 0; fair < 8; fair++) {
            c.due(due[fair], "last", fair);
        }
        // On the day of the fair itself it is still by the fair.
        c.does("give", 2, 16);
        c.due(NONE, "last", 3);
        c.due(2, "last", 4);
        c.due(2, "last", 7);
        c.does("give", 0, 0b10000011);
        c.due(1, "last", 7);
        c.does("give", 0, 128);
        c.due(NONE, "last", 7);
    }

    private void safe() {
        c.terms(3, "; SAFE: likewise, if VALLEY 1 and VALLEY 2 may each hold back one of the DAYS on which they GIVE,"
                + " whichever they like");
        c.inLand(PLAIN);
        int[] due = {NONE, NONE, NONE, NONE, 0, 1, 2, 3};
        for (int fair = 0; fair < 8; fair++) {
            c.due(due[fair], "safe", fair);
        }
        // Rennet on days 1 and 4, salt on days 5 and 7: only milk of day 0 gets the rennet of either.
        c.does("give", 1, 0b00010010);
        c.does("give", 2, 0b10100000);
        c.due(3, "last", 7);
        c.due(0, "safe", 7);
        c.due(3, "last", 6);
        c.due(NONE, "safe", 6);
        c.does("give", 0, 254);
        c.due(NONE, "safe", 7);
        // A valley that gives on one day alone may hold back that, one that gives on none has none.
        c.does("give", 0, 255);
        c.does("give", 1, 2);
        c.due(0, "last", 7);
        c.due(NONE, "safe", 7);
        c.does("give", 1, 255);
        c.does("give", 2, 128);
        c.due(NONE, "safe", 7);
        c.does("give", 2, 0);
        c.due(NONE, "safe", 7);
    }

    private void safeBothAtOnce() {
        c.terms(3, "(both at once); NONE.");
        // Rennet of day 1 and salt of day 5 held back leave rennet of day 4 and salt of day 2.
        c.inLand(PLAIN);
        c.does("give", 1, 0b00010010);
        c.does("give", 2, 0b00100100);
        c.due(3, "last", 7);
        c.due(NONE, "safe", 7);
        c.does("give", 2, 0b01100100);
        c.due(0, "safe", 7);
        c.due(0, "safe", 6);
        c.due(NONE, "safe", 5);
    }

    private void hangs() {
        c.terms(3, "HANGS: PASSES without which (each alone) a WHEEL of a DAY can't be DONE by a fair,"
                + " though it can with all of them, as a set.");
        c.inLand("v00000000;255;255;255,p0111,p1211,p0131,p2121");
        c.due(0, "hangs", 0, 1);
        c.due(3, "hangs", 0, 2);
        c.due(1, "hangs", 0, 3);
        c.due(0, "hangs", 0, 4);
        c.due(3, "hangs", 5, 7);
        c.due(0, "hangs", 6, 7);
        // Two that are alike: it hangs on neither alone.
        c.inLand("v00000000;255;255;255,p0111,p0111,p1211");
        c.due(4, "hangs", 0, 7);
        c.inLand("v00000000;255;255;255,p0131,p0131,p0131,p0131,p0131,p1211");
        c.due(32, "hangs", 0, 7);
        c.inLand("v00000000;255;255;255,p1231,p1231,p1231,p1231,p1231,p0111");
        c.due(32, "hangs", 0, 7);
        // Without the closed ones it is as with them.
        c.inLand("v00000000;255;255;255,p0110,t0110,p1210,t1211");
        c.due(0b1010, "hangs", 0, 7);
    }

    private void peace() {
        c.terms(3, "PEACE: the fewest DAYS more that VALLEYS 1 and 2 must GIVE (together) so that a WHEEL of a DAY"
                + " can be DONE by a fair; NONE: by none.");
        c.inLand(PLAIN);
        c.due(0, "peace", 0, 2);
        c.due(NONE, "peace", 0, 1);
        c.due(0, "peace", 5, 7);
        c.due(NONE, "peace", 6, 7);
        c.does("give", 2, 0);
        c.due(1, "peace", 0, 2);
        c.due(NONE, "peace", 0, 1);
        c.does("give", 1, 0);
        c.due(2, "peace", 0, 2);
        c.due(2, "peace", 5, 7);
        c.due(NONE, "peace", 0, 1);
        c.does("give", 2, 255);
        c.due(1, "peace", 0, 2);
        // Rennet on day 4 and salt on day 2: either is of use, but not both.
        c.does("give", 1, 16);
        c.does("give", 2, 4);
        c.due(1, "peace", 0, 7);
        c.due(1, "peace", 0, 2);
        c.due(1, "peace", 3, 5);
        c.due(2, "peace", 4, 7);
        c.does("give", 0, 254);
        c.due(NONE, "peace", 0, 7);
        c.inLand("v99999999;255;255;255,p0119,t1211");
        c.due(NONE, "peace", 0, 7);
    }

    /** The upper and the lower number of odds. */
    private void share(long upper, long lower, int valley, int day, int fair) {
        c.due(upper, "odds", valley, day, fair, 0);
        c.due(lower, "odds", valley, day, fair, 1);
    }

    private void shares() {
        c.terms(0, "Shares are told as upper and lower number (above 0) in least terms.");
        c.inLand(PLAIN);
        // 128, 192, 224 .. of 256 sets, and none of them.
        share(1, 2, 1, 5, 7);
        share(3, 4, 1, 4, 7);
        share(7, 8, 1, 3, 7);
        share(63, 64, 1, 0, 7);
        share(0, 1, 1, 6, 7);
        share(0, 1, 2, 0, 1);
    }

    private void odds() {
        c.terms(4, "ODDS of a VALLEY (1, 2), a WHEEL of a DAY and a fair: if each DAY on which that VALLEY GIVES is"
                + " held back, or is not, all such sets alike: the share of those by which it can be DONE by then.");
        c.inLand(PLAIN);
        share(1, 2, 2, 0, 2);
        share(3, 4, 2, 0, 3);
        share(63, 64, 2, 0, 7);
        share(1, 2, 2, 5, 7);
        c.does("give", 1, 0b00100010);
        share(3, 4, 1, 0, 7);
        share(1, 2, 1, 0, 5);
        share(1, 2, 1, 1, 7);
        share(63, 64, 2, 0, 7);
        // Rennet of day 5 alone: salt of day 6 or 7.
        share(3, 4, 2, 1, 7);
        // One set alone, of a valley that gives on no day.
        c.does("give", 1, 0);
        share(0, 1, 1, 0, 7);
        share(0, 1, 2, 0, 7);
        c.does("give", 1, 64);
        share(1, 2, 1, 0, 7);
        c.does("give", 0, 254);
        share(0, 1, 1, 0, 7);
        // The other valley holds nothing back, and all stays as it is.
        c.due(254, "give", 0, 255);
        c.due(64, "give", 1, 255);
        c.due(255, "give", 2, 255);
    }

    // ---- the calls

    private void callsOfAFair() {
        CommonBounds common = new CommonBounds(c);
        c.promise(10, "LAST; NONE.");
        c.inLand(PLAIN);
        c.due(NONE, "last", 0);
        c.due(5, "last", 7);
        common.refusalsOfADay(10, "last");
        c.promise(11, "SAFE; NONE.");
        c.inLand(PLAIN);
        c.due(NONE, "safe", 0);
        c.due(3, "safe", 7);
        common.refusalsOfADay(11, "safe");
    }

    private void callsOfADayAndAFair() {
        CommonBounds common = new CommonBounds(c);
        c.promise(12, "HANGS, as a set (0: on none, or it can't be at all).");
        c.inLand("v00000000;255;255;255,p0111,p1211,p0111,p1211");
        c.due(0, "hangs", 0, 7);
        c.due(0, "hangs", 0, 0);
        c.due(0, "hangs", 7, 7);
        c.due(0, "hangs", 7, 0);
        c.does("give", 0, 0);
        c.due(0, "hangs", 0, 7);
        c.inLand(PLAIN);
        c.due(3, "hangs", 0, 7);
        common.refusalsOfADayAndAFair(12, "hangs");
        c.promise(13, "PEACE; NONE.");
        c.inLand(PLAIN);
        c.due(0, "peace", 0, 7);
        c.due(NONE, "peace", 0, 0);
        c.due(NONE, "peace", 7, 7);
        c.due(NONE, "peace", 7, 0);
        common.refusalsOfADayAndAFair(13, "peace");
    }

    private void oddsCall() {
        c.promise(20, "ODDS (which 0 the upper, 1 the lower number).");
        c.inLand(PLAIN);
        share(3, 4, 1, 4, 7);
        share(31, 32, 2, 1, 7);
        share(0, 1, 1, 7, 0);
        c.promise(20, "LOST: UNKNOWN: VALLEY (1, 2)");
        c.lostOutside(0, 1, 2, "odds", HERE, 0, 7, 0);
        c.inLand(PLAIN);
        c.lostOutside(0, 1, 2, "odds", HERE, 0, 7, 0);
        c.lostOutside(0, 1, 2, "odds", HERE, 0, 7, 1);
        c.promise(20, "OUTSIDE: day, fair, which");
        c.inLand(PLAIN);
        for (int valley = 1; valley <= 2; valley++) {
            c.lostOutside(0, 0, 7, "odds", valley, HERE, 7, 0);
            c.lostOutside(0, 0, 7, "odds", valley, 0, HERE, 0);
            c.lostOutside(0, 0, 1, "odds", valley, 0, 7, HERE);
        }
        c.promise(20, "STATE: there is no LAND.");
        for (int valley = 1; valley <= 2; valley++) {
            c.lost(0, "odds", valley, 0, 0, 0);
            c.lost(0, "odds", valley, 7, 7, 1);
        }
    }
}
