/** Promises 1 to 6 and 31: a new object, the land. */
public final class LandTest {
    private static final Due DUE = new Due("LandTest");

    public static void main(String[] args) {
        newObject();
        refusalsOfLand();
        firstFaults();
        wholeTexts();
        textInAnotherPlace();
        textThatIsNotTaken();
        textMakesAllAnew();
        ofPass();
        snow();
        give();
        open();
        many();
        DUE.end();
    }

    private static void newObject() {
        CheeseValleys x = new CheeseValleys();
        for (int what = 0; what < 3; what++) {
            DUE.is("many(" + what + ")", x.many(what), 0);
        }
        for (int k = 0; k < 4; k++) {
            DUE.is("lose(" + k + ")", x.lose(k), 0);
        }
        DUE.is("fault()", x.fault(), 0);
        DUE.is("trace()", x.trace(), 0);
        DUE.is("open(0)", x.open(0), CheeseValleys.STATE);
        DUE.is("ofPass(0, 0)", x.ofPass(0, 0), CheeseValleys.UNKNOWN);
    }

    private static void refusalsOfLand() {
        CheeseValleys x = new CheeseValleys();
        DUE.is("land(4, 9, ..)", x.land(4, 9, 0, 0), CheeseValleys.UNKNOWN);
        DUE.is("land(-1, ..)", x.land(-1, 0, 0, 0), CheeseValleys.UNKNOWN);
        DUE.is("land(0, 3, ..)", x.land(0, 3, 0, 0), CheeseValleys.OUTSIDE);
        DUE.is("land(0, -1, ..)", x.land(0, -1, 0, 0), CheeseValleys.OUTSIDE);
        DUE.is("land of nothing", x.land(0, 0, 0, -1), -11);
        DUE.is("fault() NULL", x.fault(), 1);
        x.sheet(0, 1, 5);
        DUE.is("land of another lane, n below 0", x.land(0, 0, 9, -1), -12);
        DUE.is("fault() CAST", x.fault(), 2);
        DUE.is("land, n below 0", x.land(0, 1, 9, -1), -14);
        DUE.is("fault() SIZE", x.fault(), 4);
        DUE.is("land beyond", x.land(0, 1, 0, 6), -13);
        DUE.is("land below 0", x.land(0, 1, -1, 1), -13);
        DUE.is("land of none, from beyond", x.land(0, 1, 6, 0), -13);
        DUE.is("land, numbers that would wrap", x.land(0, 1, 5, Integer.MAX_VALUE), -13);
        DUE.is("fault() INDEX", x.fault(), 3);
        DUE.is("land of none, from the end", x.land(0, 1, 5, 0), -100);
        DUE.is("fault() of a first fault", x.fault(), 0);
        x.land(0, 1, 0, 6);
        DUE.is("land(4, ..)", x.land(4, 0, 0, 0), CheeseValleys.UNKNOWN);
        DUE.is("fault() of a refusal", x.fault(), 0);
    }

    private static void firstFault(String text, int place) {
        CheeseValleys x = new CheeseValleys();
        DUE.is("land by " + text, Due.landBy(x, text), -100 - place);
        DUE.is("many(0) by " + text, x.many(0), 0);
        DUE.is("open(0) by " + text, x.open(0), CheeseValleys.STATE);
    }

    private static void firstFaults() {
        for (int n = 0; n < Due.PLAIN.length(); n++) {
            if (n != 27) {
                firstFault(Due.PLAIN.substring(0, n), n);
            }
        }
        firstFault("w00000000;255;255;255,p0111", 0);
        firstFault("v0000000;255;255;255,p0111", 8);
        firstFault("v000000000;255;255;255,p0111", 9);
        firstFault("v00000000;300;255;255,p0111", 10);
        firstFault("v00000000;255;260;255,p0111", 15);
        firstFault("v00000000;255;255;256,p0111", 20);
        firstFault("v00000000;255;255;25,p0111", 20);
        firstFault("v00000000;255;255;2555,p0111", 21);
        firstFault("v00000000;255;255;255;255,p0111", 21);
        firstFault("v00000000;255;255;255,q0111", 22);
        firstFault("v00000000;255;255;255,P0111", 22);
        firstFault("v00000000;255;255;255,p3111", 23);
        firstFault("v00000000;255;255;255,p0011", 24);
        firstFault("v00000000;255;255;255,p0311", 24);
        firstFault("v00000000;255;255;255,p0101", 25);
        firstFault("v00000000;255;255;255,p0141", 25);
        firstFault("v00000000;255;255;255,p011x", 26);
        firstFault("v00000000;255;255;255,p01111", 27);
        firstFault("v00000000;255;255;255,p0111;", 27);
        firstFault("v00000000;255;255;255" + ",p0111".repeat(6) + ",", 57);
        firstFault("v00000000;255;255;255" + ",p0111".repeat(6) + "x", 57);
    }

    private static void wholeTexts() {
        for (int n = 1; n <= 6; n++) {
            String text = "v09876543;000;199;249" + ",s2139".repeat(n);
            CheeseValleys x = new CheeseValleys();
            DUE.is("land by " + text, Due.landBy(x, text), n);
            DUE.is("many(0) by " + text, x.many(0), n);
            DUE.is("give(0, 1)", x.give(0, 1), 0);
            DUE.is("give(1, 1)", x.give(1, 1), 199);
            DUE.is("give(2, 1)", x.give(2, 1), 249);
            DUE.is("snow(0, 1)", x.snow(0, 1), 0);
            DUE.is("snow(1, 1)", x.snow(1, 1), 9);
            DUE.is("snow(7, 1)", x.snow(7, 1), 3);
        }
    }

    private static void textInAnotherPlace() {
        for (int lane = 0; lane < 3; lane++) {
            CheeseValleys x = new CheeseValleys();
            Due.write(x, 3, lane, Due.codes("vv" + Due.PLAIN + ","));
            DUE.is("land from 2 on", x.land(3, lane, 2, 33), 2);
            DUE.is("land from 1 on", x.land(3, lane, 1, 34), -101);
            DUE.is("land, one more", x.land(3, lane, 2, 34), -134);
        }
        CheeseValleys x = new CheeseValleys();
        Due.write(x, 0, 2, Due.codes(Due.PLAIN));
        x.put(0, 0, 118 + 256);
        DUE.is("land by a code that bytes would cut", x.land(0, 2, 0, 33), -100);
        x.put(0, 0, 118);
        x.put(0, 1, Integer.MIN_VALUE);
        DUE.is("land by a code far below 0", x.land(0, 2, 0, 33), -101);
    }

    private static void textThatIsNotTaken() {
        CheeseValleys x = Due.inLand(Due.MIXED);
        x.reading(0, 6);
        DUE.is("land by a text that ends too soon", x.land(0, 0, 0, 44), -144);
        DUE.is("many(0)", x.many(0), 4);
        DUE.is("many(2)", x.many(2), 1);
        DUE.is("soonest(0)", x.soonest(0), 6);
    }

    private static void textMakesAllAnew() {
        CheeseValleys x = Due.inLand(Due.MIXED);
        x.reading(0, 6);
        x.snow(2, 9);
        x.give(1, 0);
        DUE.is("land", x.land(0, 0, 0, 27), 1);
        DUE.is("many(0)", x.many(0), 1);
        DUE.is("many(2)", x.many(2), 0);
        DUE.is("snow(2, 0)", x.snow(2, 0), 0);
        DUE.is("give(1, 0)", x.give(1, 0), 170);
        DUE.is("ofPass(1, 0)", x.ofPass(1, 0), CheeseValleys.UNKNOWN);
        x.give(1, 255);
        DUE.is("soonest(0): no pass stays", x.soonest(0), CheeseValleys.NONE);
        DUE.is("holes(0): no pass stays", x.holes(0), CheeseValleys.NONE);
        DUE.is("cell(0, 0, 0): the sheet stays", x.cell(0, 0, 0), 118);
    }

    private static void ofPass() {
        CheeseValleys x = Due.inLand("v00000000;255;255;255,p0110,p1029,s2035,t1212,t0227,t2138");
        int[][] due = {
            {0, 0, 1, 1, 0, 1}, {0, 1, 0, 2, 9, 2}, {1, 2, 0, 3, 5, 4},
            {2, 1, 2, 1, 2, 1}, {2, 0, 2, 2, 7, 1}, {2, 2, 1, 3, 8, 2},
        };
        for (int p = 0; p < 6; p++) {
            for (int what = 0; what < 6; what++) {
                DUE.is("ofPass(" + p + ", " + what + ")", x.ofPass(p, what), due[p][what]);
            }
        }
        DUE.is("ofPass(0, 6)", x.ofPass(0, 6), CheeseValleys.OUTSIDE);
        DUE.is("ofPass(0, -1)", x.ofPass(0, -1), CheeseValleys.OUTSIDE);
        DUE.is("ofPass(6, 6)", x.ofPass(6, 6), CheeseValleys.UNKNOWN);
        DUE.is("ofPass(-1, 0)", x.ofPass(-1, 0), CheeseValleys.UNKNOWN);
    }

    private static void snow() {
        CheeseValleys x = new CheeseValleys();
        DUE.is("snow(8, 0), no land", x.snow(8, 0), CheeseValleys.OUTSIDE);
        DUE.is("snow(7, 9), no land", x.snow(7, 9), CheeseValleys.STATE);
        Due.landBy(x, Due.MIXED);
        DUE.is("snow(5, 9)", x.snow(5, 9), 3);
        DUE.is("snow(5, 10)", x.snow(5, 10), CheeseValleys.OUTSIDE);
        DUE.is("snow(5, -1)", x.snow(5, -1), CheeseValleys.OUTSIDE);
        DUE.is("snow(-1, 0)", x.snow(-1, 0), CheeseValleys.OUTSIDE);
        DUE.is("snow(8, 0)", x.snow(8, 0), CheeseValleys.OUTSIDE);
        DUE.is("snow(5, 0)", x.snow(5, 0), 9);
    }

    private static void give() {
        CheeseValleys x = new CheeseValleys();
        DUE.is("give(3, 256), no land", x.give(3, 256), CheeseValleys.UNKNOWN);
        DUE.is("give(0, 256), no land", x.give(0, 256), CheeseValleys.OUTSIDE);
        DUE.is("give(0, 255), no land", x.give(0, 255), CheeseValleys.STATE);
        Due.landBy(x, Due.MIXED);
        DUE.is("give(2, 255)", x.give(2, 255), 204);
        DUE.is("give(2, 256)", x.give(2, 256), CheeseValleys.OUTSIDE);
        DUE.is("give(2, -1)", x.give(2, -1), CheeseValleys.OUTSIDE);
        DUE.is("give(-1, 0)", x.give(-1, 0), CheeseValleys.UNKNOWN);
        DUE.is("give(2, 0)", x.give(2, 0), 255);
    }

    private static void open() {
        CheeseValleys x = new CheeseValleys();
        DUE.is("open(8), no land", x.open(8), CheeseValleys.OUTSIDE);
        DUE.is("open(7), no land", x.open(7), CheeseValleys.STATE);
        Due.landBy(x, "v01234567;255;255;255,p0114,s0114,t0110,p0110,p0119,s0115");
        int[] due = {55, 55, 55, 55, 52, 20, 20, 20};
        for (int day = 0; day < 8; day++) {
            DUE.is("open(" + day + ")", x.open(day), due[day]);
        }
        x.snow(0, 9);
        DUE.is("open(0) in deep snow", x.open(0), 4);
        DUE.is("open(-1)", x.open(-1), CheeseValleys.OUTSIDE);
    }

    private static void many() {
        CheeseValleys x = Due.inLand("v00000000;255;170;204,p0111");
        DUE.is("many(0)", x.many(0), 1);
        DUE.is("many(1)", x.many(1), 2);
        x.give(0, 8);
        DUE.is("many(1)", x.many(1), 1);
        x.reading(0, 0);
        x.reading(0, 0);
        DUE.is("many(2)", x.many(2), 2);
        DUE.is("many(3)", x.many(3), CheeseValleys.OUTSIDE);
        DUE.is("many(-1)", x.many(-1), CheeseValleys.OUTSIDE);
    }
}
