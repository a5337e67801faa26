/** Terms 1 and promises 1, 3 to 6 and 31: the land. */
final class LandBounds {
    private static final int UNKNOWN = CheeseValleys.UNKNOWN, OUTSIDE = CheeseValleys.OUTSIDE;
    private static final int STATE = CheeseValleys.STATE, HERE = Cases.HERE;
    private static final String ONE = "v12345678;129;066;195,s1229";
    private static final String SIX = "v09876543;255;170;204,p0110,s1029,t2035,t1212,s0237,p2138";

    private final Cases c;

    LandBounds(Cases c) {
        this.c = c;
    }

    void run() {
        newObject();
        manyCalls();
        kinds();
        takes();
        open();
        ofPass();
        snow();
        give();
        openCall();
        many();
    }

    private void newObject() {
        c.promise(1, "No LAND (no PASSES)");
        c.due(0, "many", 0);
        c.due(UNKNOWN, "ofPass", 0, 0);
        c.refused(STATE, "snow", 0, 0);
        c.refused(STATE, "give", 0, 0);
        c.refused(STATE, "open", 0);
        c.promise(1, ", SHEETS have nothing.");
        for (int k = 0; k < 4; k++) {
            c.lost(1, "cell", k, 0, 0);
            c.refused(-11, "put", k, 0, 0);
            c.due(0, "lose", k);
        }
    }

    private void manyCalls() {
        c.speakOf("What it is", "An object is used for at most 512 calls after it has been made");
        c.inLand(SIX);
        int ahead = SIX.length() + 3;
        for (int call = ahead + 1; call <= 511; call++) {
            int v = call % 10;
            c.due(call == ahead + 1 ? 0 : (call - 1) % 10, "snow", 0, v);
        }
        c.due(6, "many", 0);
        // What later calls answer is free, but they answer.
        c.speakOf("What it is", "; what later calls answer is free.");
        for (int call = 1; call <= 600; call++) {
            c.does("many", call % 3);
        }
    }

    private void kinds() {
        c.terms(1, "Kinds: 0 PASS (p); 1 STEEP (s), a PASS; 2 TUNNEL (t), a STEEP.");
        c.inLand("v00000000;255;255;255,p0111,s0111,t0111");
        for (int p = 0; p < 3; p++) {
            c.due(p, "ofPass", p, 0);
            for (int kind = 0; kind < 3; kind++) {
                c.due(kind <= p ? 1 : -12, "as", p, kind);
            }
        }
    }

    private void takes() {
        c.terms(1, "TAKES, so many DAYS: a PASS how LONG it is; a STEEP one 1 more;"
                + " a TUNNEL half of what a PASS of its length does, and what is left over.");
        int[][] due = {{1, 2, 3}, {2, 3, 4}, {1, 1, 2}};
        for (int kind = 0; kind < 3; kind++) {
            for (int length = 1; length <= 3; length++) {
                c.inLand("v00000000;255;255;255," + "pst".charAt(kind) + "01" + length + "9");
                int days = due[kind][length - 1];
                c.due(days, "ofPass", 0, 5);
                c.row(0, 0, 0);
                c.due(days, "way", 0, 0, 0, 0, 1, 0);
            }
        }
        c.terms(0, "Quotients are cut.");
        c.inLand("v00000000;255;255;255,t0111,t0121,t0131");
        c.due(1, "ofPass", 0, 5);
        c.due(1, "ofPass", 1, 5);
        c.due(2, "ofPass", 2, 5);
    }

    private void open() {
        c.terms(1, "OPEN on a DAY: a PASS that is HIGHER than there is SNOW; a STEEP one likewise; a TUNNEL always.");
        c.inLand("v00000000;255;255;255,p0110,s0110,t0110,p0119,s0119,t0119");
        // The low ones are never higher, the high ones are but in the deepest snow.
        for (int v = 0; v <= 9; v++) {
            c.does("snow", 3, v);
            c.due(v < 9 ? 0b111100 : 0b100100, "open", 3);
        }
        c.inLand("v00000000;255;255;255,p0114,s0115,t0114");
        int[] due = {7, 7, 7, 7, 6, 4, 4, 4, 4, 4};
        for (int v = 0; v <= 9; v++) {
            c.does("snow", 7, v);
            c.due(due[v], "open", 7);
        }
    }

    private void ofPass() {
        c.promise(3, "Of a PASS: 0 kind, 1 the first VALLEY, 2 the other one, 3 how LONG, 4 how HIGH,"
                + " 5 how many DAYS it TAKES.");
        c.inLand(SIX);
        int[][] due = {
            {0, 0, 1, 1, 0, 1}, {1, 1, 0, 2, 9, 3}, {2, 2, 0, 3, 5, 2},
            {2, 1, 2, 1, 2, 1}, {1, 0, 2, 3, 7, 4}, {0, 2, 1, 3, 8, 3},
        };
        for (int p = 0; p < 6; p++) {
            for (int what = 0; what < 6; what++) {
                c.due(due[p][what], "ofPass", p, what);
            }
        }
        c.promise(3, "UNKNOWN");
        c.outside(UNKNOWN, 0, -1, "ofPass", HERE, 6);
        c.inLand(ONE);
        c.due(1, "ofPass", 0, 0);
        c.outside(UNKNOWN, 0, 0, "ofPass", HERE, 0);
        c.outside(UNKNOWN, 0, 0, "ofPass", HERE, 6);
        c.inLand(SIX.substring(0, 51));
        c.outside(UNKNOWN, 0, 4, "ofPass", HERE, 5);
        c.promise(3, "OUTSIDE");
        c.inLand(ONE);
        c.outside(OUTSIDE, 0, 5, "ofPass", 0, HERE);
    }

    private void snow() {
        c.promise(4, "SNOW of a DAY (0 .. 7) becomes v (0 .. 9): what it was.");
        c.inLand(ONE);
        for (int day = 0; day < 8; day++) {
            c.due(1 + day, "snow", day, 9);
            c.due(9, "snow", day, 0);
            c.due(0, "snow", day, 7 - day);
        }
        for (int day = 0; day < 8; day++) {
            c.due(7 - day, "snow", day, 0);
        }
        c.promise(4, "OUTSIDE");
        c.outside(OUTSIDE, 0, 7, "snow", HERE, 0);
        c.outside(OUTSIDE, 0, 9, "snow", 0, HERE);
        c.inLand(ONE);
        for (int v = 0; v <= 9; v += 9) {
            c.outside(OUTSIDE, 0, 7, "snow", HERE, v);
        }
        for (int day = 0; day < 8; day += 7) {
            c.outside(OUTSIDE, 0, 9, "snow", day, HERE);
        }
        c.promise(4, "STATE: there is no LAND.");
        c.refused(STATE, "snow", 0, 0);
        c.refused(STATE, "snow", 7, 9);
        c.text("v12345678;129;066;195,s1228,");
        c.does("land", 0, 0, 0, 28);
        c.refused(STATE, "snow", 7, 9);
    }

    private void give() {
        c.promise(5, "DAYS on which a VALLEY (0 .. 2) GIVES become a set (0 .. 255): what they were.");
        c.inLand(ONE);
        int[] was = {129, 66, 195};
        for (int valley = 0; valley < 3; valley++) {
            c.due(was[valley], "give", valley, 255);
            c.due(255, "give", valley, 0);
            c.due(0, "give", valley, valley + 1);
        }
        for (int valley = 0; valley < 3; valley++) {
            c.due(valley + 1, "give", valley, 0);
        }
        c.promise(5, "UNKNOWN");
        c.outside(UNKNOWN, 0, 2, "give", HERE, 256);
        c.inLand(ONE);
        c.outside(UNKNOWN, 0, 2, "give", HERE, 0);
        c.outside(UNKNOWN, 0, 2, "give", HERE, -1);
        c.promise(5, "OUTSIDE");
        c.outside(OUTSIDE, 0, 255, "give", 0, HERE);
        c.inLand(ONE);
        for (int valley = 0; valley < 3; valley++) {
            c.outside(OUTSIDE, 0, 255, "give", valley, HERE);
        }
        c.promise(5, "STATE: there is no LAND.");
        c.refused(STATE, "give", 0, 0);
        c.refused(STATE, "give", 2, 255);
    }

    private void openCall() {
        c.promise(6, "PASSES that are OPEN on a DAY, as a set.");
        c.inLand("v01234567;255;255;255,p0114,s0114,t0110,p0110,p0119,s0115");
        int[] due = {55, 55, 55, 55, 52, 20, 20, 20};
        for (int day = 0; day < 8; day++) {
            c.due(due[day], "open", day);
        }
        c.inLand("v00000000;255;255;255" + ",p0119".repeat(6));
        c.due(63, "open", 0);
        c.does("snow", 0, 9);
        c.due(0, "open", 0);
        new CommonBounds(c).refusalsOfADay(6, "open");
    }

    private void many() {
        c.promise(31, "How many: 0 PASSES, 1 DAYS on which all three VALLEYS GIVE, 2 READINGS");
        c.inLand(SIX);
        c.due(6, "many", 0);
        c.due(2, "many", 1);
        c.due(0, "many", 2);
        int[] sets = {0, 255, 1, 128};
        int[] due = {0, 8, 1, 1};
        for (int k = 0; k < 4; k++) {
            for (int valley = 0; valley < 3; valley++) {
                c.does("give", valley, sets[k]);
            }
            c.due(due[k], "many", 1);
        }
        c.does("give", 2, 127);
        c.due(0, "many", 1);
        for (int k = 1; k <= 8; k++) {
            c.does("reading", 0, 0);
            c.due(k, "many", 2);
        }
        c.inLand(ONE);
        c.due(1, "many", 0);
        // Days 0, 7 - 1, 6 - 0, 1, 6, 7: none is in all three.
        c.due(0, "many", 1);
        c.promise(31, "(0 all without a LAND)");
        for (int what = 0; what < 3; what++) {
            c.due(0, "many", what);
        }
        c.promise(31, "OUTSIDE");
        c.outside(OUTSIDE, 0, 2, "many", HERE);
        c.inLand(SIX);
        c.outside(OUTSIDE, 0, 2, "many", HERE);
    }
}
