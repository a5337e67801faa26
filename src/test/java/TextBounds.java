/** Terms 1 and promise 2: a TEXT at each kind of place, where it ends too soon, where it goes on too long. */
final class TextBounds {
    private static final String SIX = "v09090909;000;255;199,p0110,s1029,t0231,p2015,s1224,t2133";
    private static final int CAST = -12, NULL = -11, SIZE = -14, INDEX = -13;

    private final Cases c;

    TextBounds(Cases c) {
        this.c = c;
    }

    void run() {
        snow();
        gives();
        giveDigits();
        passes();
        valleys();
        longAndHigh();
        firstFault();
        endsTooSoon();
        codes();
        makesAllAnew();
        cells();
        refusals();
        indexes();
        firstFaultAnswer();
    }

    // ---- the places of a text

    private static String with(String text, int place, int code) {
        return text.substring(0, place) + (char) code + text.substring(place + 1);
    }

    private void taken(String text, int passes) {
        c.anew();
        c.text(text);
        c.due(passes, "land", 0, 0, 0, text.length());
        c.due(0, "fault");
        c.due(passes, "many", 0);
    }

    /** Not taken by an object without a land, nor by one that has another land. */
    private void faultAt(int place, String text) {
        c.anew();
        c.text(text);
        c.refused(-100 - place, "land", 0, 0, 0, text.length());
        c.inLand("v11111111;003;012;048,t0111,t1211");
        c.does("reading", 1, 5);
        c.text(text);
        c.refused(-100 - place, "land", 0, 0, 0, text.length());
    }

    private void faultsAt(int place, int... codes) {
        for (int code : codes) {
            faultAt(place, with(SIX, place, code));
        }
    }

    private void takenAt(int place, int... codes) {
        for (int code : codes) {
            taken(with(SIX, place, code), 6);
        }
    }

    private void snow() {
        c.terms(1, "A LAND by a TEXT: v, eight digits 0 .. 9 (SNOW by DAYS 0 .. 7), then three times");
        faultsAt(0, 'u', 'w', 'V', 0, 127, '0', ';', ',');
        for (int day = 0; day < 8; day++) {
            faultsAt(1 + day, '0' - 1, '9' + 1, 'v', ';', 0, 127);
            for (int digit = 0; digit <= 9; digit++) {
                takenAt(1 + day, '0' + digit);
                c.due(digit, "snow", day, 0);
            }
        }
        // Seven digits, and nine of them.
        faultAt(8, "v0000000;255;255;255,p0111");
        faultAt(9, "v000000000;255;255;255,p0111");
    }

    private void gives() {
        c.terms(1, ": ; and three digits 000 .. 255 (DAYS on which VALLEY 0, 1, 2 GIVES, as a set),"
                + " then 1 to 6 PASSES");
        for (int valley = 0; valley < 3; valley++) {
            int place = 9 + 4 * valley;
            faultsAt(place, ';' - 1, ';' + 1, ',', '0', 0, 127);
            for (int set : new int[] {0, 1, 9, 10, 99, 100, 199, 200, 249, 250, 254, 255}) {
                taken(withNumber(place + 1, set), 6);
                c.due(set, "give", valley, 0);
            }
        }
        // Two times, and four times.
        faultAt(17, "v00000000;255;255,p0111");
        faultAt(21, "v00000000;255;255;255;255,p0111");
    }

    private static String withNumber(int place, int number) {
        return SIX.substring(0, place) + String.format("%03d", number) + SIX.substring(place + 3);
    }

    private void giveDigits() {
        c.terms(1, "(of three digits the first one by which none of 000 .. 255 begins so");
        for (int place = 10; place <= 18; place += 4) {
            faultAt(place + 2, withNumber(place, 256));
            faultAt(place + 2, withNumber(place, 259));
            faultAt(place + 1, withNumber(place, 260));
            faultAt(place + 1, withNumber(place, 299));
            faultAt(place, withNumber(place, 300));
            faultAt(place, withNumber(place, 999));
            faultsAt(place, '0' - 1, '9' + 1, ';', ',');
            String low = withNumber(place, 100);
            faultAt(place + 1, with(low, place + 1, '0' - 1));
            faultAt(place + 1, with(low, place + 1, '9' + 1));
            faultAt(place + 2, with(low, place + 2, '0' - 1));
            faultAt(place + 2, with(low, place + 2, '9' + 1));
            String high = withNumber(place, 255);
            faultAt(place + 1, with(high, place + 1, '0' - 1));
            faultAt(place + 2, with(high, place + 2, '0' - 1));
        }
        // Two digits, and four of them.
        faultAt(12, "v00000000;25;255;255,p0111");
        faultAt(13, "v00000000;2550;255;255,p0111");
    }

    private void passes() {
        c.terms(1, ", numbered from 0 on, each: , and a letter");
        for (int count = 1; count <= 6; count++) {
            taken(SIX.substring(0, 21 + 6 * count), count);
            c.due(SIX.charAt(20 + 6 * count) - '0', "ofPass", count - 1, 4);
            c.due(CheeseValleys.UNKNOWN, "ofPass", count, 4);
        }
        faultAt(21, SIX.substring(0, 21));
        for (int p = 0; p < 6; p++) {
            faultsAt(21 + 6 * p, ',' - 1, ',' + 1, ';', '0', 'p', 0, 127);
            faultsAt(22 + 6 * p, 'o', 'q', 'r', 'u', 'v', 'P', 'S', 'T', '0', ',', 0, 127);
            takenAt(22 + 6 * p, 'p', 's', 't');
        }
        c.terms(1, "; the , of a seventh PASS)");
        faultAt(57, SIX + ",");
        faultAt(57, SIX + ",p0");
        faultAt(57, SIX + "x");
        faultAt(57, SIX + "000");
    }

    private void valleys() {
        c.terms(1, ", a digit 0 .. 2, another one 0 .. 2 that is not the same"
                + " (the VALLEYS between which it goes, both ways)");
        for (int p = 0; p < 6; p++) {
            int place = 23 + 6 * p;
            faultsAt(place, '0' - 1, '3', '9', ',', 'p', 0, 127);
            faultsAt(place + 1, '0' - 1, '3', '9', ',', SIX.charAt(place), 0, 127);
            for (String pair : new String[] {"01", "02", "10", "12", "20", "21"}) {
                taken(SIX.substring(0, place) + pair + SIX.substring(place + 2), 6);
                c.due(pair.charAt(0) - '0', "ofPass", p, 1);
                c.due(pair.charAt(1) - '0', "ofPass", p, 2);
            }
            for (String pair : new String[] {"00", "11", "22"}) {
                faultAt(place + 1, SIX.substring(0, place) + pair + SIX.substring(place + 2));
            }
        }
        for (String pair : new String[] {"01", "10"}) {
            c.inLand("v00000000;255;255;255,p" + pair + "11,p1211");
            c.row(1, 0, 0, 0);
            c.due(1, "way", 0, 1, 0, 0, 1, 3);
            c.due(0, "way", 0, 1, 0, 0, 2, 3);
            c.due(2, "soonest", 0);
        }
    }

    private void longAndHigh() {
        c.terms(1, ", a digit 1 .. 3 (LONG)");
        for (int p = 0; p < 6; p++) {
            faultsAt(25 + 6 * p, '0' - 1, '0', '4', '9', ',', 0, 127);
            for (int length = 1; length <= 3; length++) {
                takenAt(25 + 6 * p, '0' + length);
                c.due(length, "ofPass", p, 3);
            }
        }
        c.terms(1, ", a digit 0 .. 9 (HIGH)");
        for (int p = 0; p < 6; p++) {
            faultsAt(26 + 6 * p, '0' - 1, '9' + 1, ',', 'x', 0, 127);
            for (int height = 0; height <= 9; height++) {
                takenAt(26 + 6 * p, '0' + height);
                c.due(height, "ofPass", p, 4);
            }
        }
    }

    private void firstFault() {
        c.terms(1, "FIRST FAULT: the place (from 0 on) of the first code with which no TEXT goes on");
        for (int place = 0; place < SIX.length(); place++) {
            faultAt(place, with(SIX, place, 'x'));
            // A fault behind the first one is not told, nor that it ends too soon behind it.
            faultAt(place, with(with(SIX, SIX.length() - 1, 'x'), place, 'x'));
            faultAt(place, with(SIX, place, 'x').substring(0, place + 1));
        }
        faultAt(27, SIX.substring(0, 27) + "0" + SIX.substring(27));
        faultAt(27, SIX.substring(0, 27) + ";");
        // A code that only looks like one of a text when it is cut.
        for (int far : new int[] {256, 65536, -256, Integer.MIN_VALUE}) {
            for (int place : new int[] {0, 1, 9, 10, 21, 22, 23, 25, 26}) {
                int[] wide = SIX.substring(0, 27).chars().toArray();
                wide[place] += far;
                c.anew();
                c.row(0, 2, wide);
                c.refused(-100 - place, "land", 0, 2, 0, 27);
            }
        }
    }

    private void endsTooSoon() {
        c.terms(1, "; how many codes there are, if it just ends too soon.");
        for (int n = 0; n <= SIX.length(); n++) {
            boolean isWhole = n > 21 && (n - 21) % 6 == 0;
            if (isWhole) {
                taken(SIX.substring(0, n), (n - 21) / 6);
            } else {
                faultAt(n, SIX.substring(0, n));
            }
        }
    }

    private void codes() {
        c.terms(1, "(Codes: v 118, p 112, s 115, t 116, ; 59, comma 44, digits 48 .. 57.)");
        for (int lane = 0; lane < 3; lane++) {
            c.anew();
            c.row(0, lane, 118, 48, 49, 50, 51, 52, 53, 54, 57, 59, 50, 53, 53, 59, 48, 48, 56, 59, 49, 54, 57,
                    44, 112, 48, 49, 49, 55, 44, 115, 49, 50, 50, 56, 44, 116, 50, 48, 51, 57);
            c.due(3, "land", 0, lane, 0, 39);
            c.due(9, "snow", 7, 0);
            c.due(255, "give", 0, 0);
            c.due(8, "give", 1, 0);
            c.due(169, "give", 2, 0);
            for (int p = 0; p < 3; p++) {
                c.due(p, "ofPass", p, 0);
                c.due(7 + p, "ofPass", p, 4);
            }
        }
    }

    private void makesAllAnew() {
        c.terms(1, "A TEXT that is taken makes all anew: no READINGS.");
        c.inLand("v00000000;255;255;255,t0111,t1211");
        c.due(2, "soonest", 0);
        c.does("reading", 1, 5);
        c.does("snow", 2, 5);
        c.does("give", 1, 1);
        c.does("reading", 0, 7);
        c.text("v12345678;001;002;004,t0127");
        c.due(1, "land", 0, 0, 0, 27);
        c.due(0, "many", 2);
        c.due(CheeseValleys.OUTSIDE, "back", 1);
        c.due(256, "gave", 1, 0);
        c.due(1, "many", 0);
        c.due(CheeseValleys.UNKNOWN, "ofPass", 1, 0);
        c.due(3, "snow", 2, 0);
        c.due(2, "give", 1, 255);
        // No pass of the land before stays.
        c.due(CheeseValleys.NONE, "soonest", 0);
        c.due(CheeseValleys.NONE, "holes", 0);
        c.due(CheeseValleys.NONE, "peace", 0, 7);
        c.due(1, "open", 0);
        // The same text again does so, too.
        c.does("reading", 1, 5);
        c.due(1, "land", 0, 0, 0, 27);
        c.due(0, "many", 2);
        c.due(3, "snow", 2, 0);
    }

    // ---- the call

    private void cells() {
        c.promise(2, "A LAND by a TEXT of n cells of a SHEET from i on, taken as a row of a LANE: how many PASSES");
        for (int k = 0; k < 4; k++) {
            for (int lane = 0; lane < 3; lane++) {
                c.anew();
                c.row(k, lane, ("vv," + SIX).chars().toArray());
                c.due(6, "land", k, lane, 3, 57);
                c.due(1, "land", k, lane, 3, 27);
                c.due(0, "fault");
                c.refused(-101, "land", k, lane, 0, 60);
                c.refused(-100, "land", k, lane, 2, 58);
                c.refused(-100, "land", k, lane, 4, 56);
                c.refused(-156, "land", k, lane, 3, 56);
            }
        }
        // Cells behind the n are no part of it: they may be anything.
        c.anew();
        c.text(SIX + ",xx");
        c.due(6, "land", 0, 0, 0, 57);
        c.refused(-157, "land", 0, 0, 0, 58);
        c.refused(-157, "land", 0, 0, 0, 60);
    }

    private void ready() {
        c.inLand("v11111111;003;012;048,t0111,t1211");
        c.does("reading", 1, 4);
        c.row(0, 0, 118, 48, 48, 48, 48);
        c.row(1, 1, 118, 48, 48, 48, 48);
        c.row(2, 2);
    }

    private void refusals() {
        c.promise(2, "UNKNOWN");
        ready();
        c.outside(CheeseValleys.UNKNOWN, 0, 3, "land", Cases.HERE, 3, 99, -1);
        c.outside(CheeseValleys.UNKNOWN, 0, 3, "land", Cases.HERE, 0, 0, 5);
        c.promise(2, "OUTSIDE: lane");
        ready();
        for (int k = 0; k < 4; k++) {
            c.outside(CheeseValleys.OUTSIDE, 0, 2, "land", k, Cases.HERE, 99, -1);
        }
        c.promise(2, "FAULTS CAST (nothing is no CAST)");
        ready();
        for (int k = 0; k < 3; k++) {
            for (int lane = 0; lane < 3; lane++) {
                c.refused(lane == k ? SIZE : CAST, "land", k, lane, 99, -1);
            }
            c.refused(NULL, "land", 3, k, 99, -1);
        }
        c.promise(2, "NULL");
        c.refused(NULL, "land", 0, 0, 0, 0);
        ready();
        c.does("lose", 0);
        c.refused(NULL, "land", 0, 0, 0, 5);
        c.refused(NULL, "land", 0, 1, 0, -1);
        c.promise(2, "SIZE: n is below 0");
        ready();
        for (int n : new int[] {-1, -2, Integer.MIN_VALUE, Integer.MIN_VALUE + 1}) {
            c.refused(SIZE, "land", 0, 0, 0, n);
            c.refused(SIZE, "land", 0, 0, -1, n);
            c.refused(SIZE, "land", 1, 1, 99, n);
            c.refused(SIZE, "land", 2, 2, 0, n);
        }
    }

    private void indexes() {
        c.promise(2, "INDEX: not all cells are there");
        ready();
        c.refused(-105, "land", 0, 0, 0, 5);
        c.refused(INDEX, "land", 0, 0, 0, 6);
        c.refused(INDEX, "land", 0, 0, 1, 5);
        c.refused(INDEX, "land", 0, 0, 4, 2);
        c.refused(INDEX, "land", 0, 0, 5, 1);
        c.refused(INDEX, "land", 0, 0, -1, 1);
        c.refused(INDEX, "land", 0, 0, -1, 6);
        c.refused(INDEX, "land", 0, 0, 0, Integer.MAX_VALUE);
        c.refused(INDEX, "land", 0, 0, 5, Integer.MAX_VALUE);
        c.refused(INDEX, "land", 0, 0, Integer.MAX_VALUE, Integer.MAX_VALUE);
        c.refused(INDEX, "land", 0, 0, Integer.MIN_VALUE, Integer.MAX_VALUE);
        // None is taken: from 0 to how many there are.
        c.refused(-100, "land", 0, 0, 0, 0);
        c.refused(-100, "land", 0, 0, 5, 0);
        c.outside(INDEX, 0, 5, "land", 0, 0, Cases.HERE, 0);
        // A row of no cells.
        c.refused(-100, "land", 2, 2, 0, 0);
        c.refused(INDEX, "land", 2, 2, 0, 1);
        c.outside(INDEX, 0, 0, "land", 2, 2, Cases.HERE, 0);
    }

    private void firstFaultAnswer() {
        c.promise(2, "; -100 less the FIRST FAULT.");
        ready();
        c.refused(-100, "land", 0, 0, 1, 4);
        c.refused(-104, "land", 0, 0, 0, 4);
        // Faults come ahead of it: the text is no text either way.
        c.promise(2, "; -100 less it.");
        ready();
        c.refused(INDEX, "land", 0, 0, 1, 5);
        c.refused(SIZE, "land", 0, 0, 1, -1);
        c.refused(-101, "land", 1, 1, 0, 1);
    }
}
