/** Promises 7 to 9: wheels. */
public final class WheelsTest {
    private static final Due DUE = new Due("WheelsTest");

    public static void main(String[] args) {
        soonest();
        soonestWaits();
        holes();
        refusalsOfWay();
        stepsThatAreRefused();
        waysThatCanBe();
        waysThatCantBe();
        waysByMilk();
        DUE.end();
    }

    private static void soonest() {
        CheeseValleys x = new CheeseValleys();
        DUE.is("soonest(8), no land", x.soonest(8), CheeseValleys.OUTSIDE);
        DUE.is("soonest(0), no land", x.soonest(0), CheeseValleys.STATE);
        Due.landBy(x, Due.PLAIN);
        for (int day = 0; day < 8; day++) {
            int due = day < 6 ? day + 2 : CheeseValleys.NONE;
            DUE.is("soonest(" + day + ")", x.soonest(day), due);
            DUE.is("holes(" + day + ")", x.holes(day), day < 6 ? 0 : CheeseValleys.NONE);
        }
        DUE.is("soonest(-1)", x.soonest(-1), CheeseValleys.OUTSIDE);
        x.give(0, 254);
        DUE.is("soonest(0), no milk", x.soonest(0), CheeseValleys.NONE);
        DUE.is("soonest(1)", x.soonest(1), 3);
    }

    private static void soonestWaits() {
        CheeseValleys x = Due.inLand(Due.PLAIN);
        x.snow(0, 1);
        DUE.is("soonest(0), snow on day 0", x.soonest(0), 3);
        x.snow(2, 1);
        DUE.is("soonest(0), snow on day 2, too", x.soonest(0), 4);
        x.give(2, 64);
        DUE.is("soonest(0), salt on day 6", x.soonest(0), 6);
        x.give(1, 32);
        DUE.is("soonest(0), rennet on day 5", x.soonest(0), 6);
        x.give(1, 64);
        DUE.is("soonest(0), rennet too late", x.soonest(0), CheeseValleys.NONE);
        // Salt needs rennet: the way through valley 2 goes on to valley 1 and back.
        Due.landBy(x, "v00000000;255;255;255,p0211,p1211");
        DUE.is("soonest(0) by valley 2", x.soonest(0), 3);
        DUE.is("soonest(5) by valley 2", x.soonest(5), CheeseValleys.NONE);
        // A pass is looked at on the day of leaving alone.
        Due.landBy(x, "v09900000;001;255;255,p0131,t1210");
        DUE.is("soonest(0) under snow on the way", x.soonest(0), 4);
    }

    private static void holes() {
        CheeseValleys x = new CheeseValleys();
        DUE.is("holes(8), no land", x.holes(8), CheeseValleys.OUTSIDE);
        DUE.is("holes(0), no land", x.holes(0), CheeseValleys.STATE);
        Due.landBy(x, Due.PLAIN);
        x.give(2, 8);
        DUE.is("holes(0), salt on day 3", x.holes(0), 1);
        x.give(2, 128 + 8);
        // Back and forth from day 2 on is no waiting, but comes to valley 2 on even days alone.
        DUE.is("holes(0), salt on days 3 and 7", x.holes(0), 1);
        x.give(2, 64);
        DUE.is("holes(0), salt on day 6", x.holes(0), 0);
        DUE.is("soonest(0), salt on day 6", x.soonest(0), 6);
        x.give(0, 0);
        DUE.is("holes(0), no milk", x.holes(0), CheeseValleys.NONE);
        DUE.is("holes(-1)", x.holes(-1), CheeseValleys.OUTSIDE);
        // Salt needs rennet, and that comes on day 2 alone.
        Due.landBy(x, "v00000000;001;004;255,p0111,p1211");
        DUE.is("holes(0), rennet on day 2", x.holes(0), 1);
        // Fewer days of waiting may end later than the soonest.
        Due.landBy(x, "v00000000;001;002;136,p0111,p1211,t1230");
        DUE.is("soonest(0)", x.soonest(0), 3);
        DUE.is("holes(0)", x.holes(0), 0);
        Due.landBy(x, "v00000000;001;002;072,p0111,p1211");
        DUE.is("soonest(0), salt on days 3 and 6", x.soonest(0), 3);
        DUE.is("holes(0), salt on days 3 and 6", x.holes(0), 0);
    }

    private static void refusalsOfWay() {
        CheeseValleys x = new CheeseValleys();
        DUE.is("way(8, 9, ..)", x.way(8, 9, 0, 0, 0, 0), CheeseValleys.OUTSIDE);
        DUE.is("way(0, 4, 9, ..)", x.way(0, 4, 9, 0, 0, 0), CheeseValleys.UNKNOWN);
        DUE.is("way, lane", x.way(0, 1, 3, 0, 0, 0), CheeseValleys.OUTSIDE);
        DUE.is("way, n", x.way(0, 1, 2, 0, 21, 0), CheeseValleys.OUTSIDE);
        DUE.is("way, n below 0", x.way(0, 1, 2, 0, -1, 0), CheeseValleys.OUTSIDE);
        DUE.is("way, what", x.way(0, 1, 2, 0, 0, 5), CheeseValleys.OUTSIDE);
        DUE.is("way of nothing", x.way(0, 1, 2, 0, 20, 4), -11);
        DUE.is("fault()", x.fault(), 1);
        x.sheet(1, 2, 3);
        DUE.is("way of another lane", x.way(0, 1, 1, 9, 20, 0), -12);
        DUE.is("fault()", x.fault(), 2);
        DUE.is("way beyond", x.way(0, 1, 2, 0, 4, 0), -13);
        DUE.is("fault()", x.fault(), 3);
        DUE.is("way of none, from beyond", x.way(0, 1, 2, 4, 0, 0), -13);
        DUE.is("way from below 0", x.way(0, 1, 2, -1, 0, 0), -13);
        DUE.is("way, no land", x.way(0, 1, 2, 3, 0, 0), CheeseValleys.STATE);
        DUE.is("fault()", x.fault(), 0);
    }

    private static void stepsThatAreRefused() {
        CheeseValleys x = new CheeseValleys();
        Due.write(x, 1, 2, 7, 9, 5);
        DUE.is("way by no step, no land", x.way(0, 1, 2, 0, 3, 0), CheeseValleys.STATE);
        Due.landBy(x, Due.PLAIN);
        DUE.is("way, 9 ahead of 5", x.way(0, 1, 2, 0, 3, 0), CheeseValleys.OUTSIDE);
        DUE.is("way, 5 alone", x.way(0, 1, 2, 2, 1, 0), CheeseValleys.UNKNOWN);
        DUE.is("way, 7 alone", x.way(0, 1, 2, 0, 1, 1), 0);
        Due.write(x, 1, 0, 2, -1);
        DUE.is("way, 2 ahead of -1", x.way(0, 1, 0, 0, 2, 1), CheeseValleys.UNKNOWN);
        DUE.is("way, -1 alone", x.way(0, 1, 0, 1, 1, 1), CheeseValleys.OUTSIDE);
        DUE.is("fault()", x.fault(), 0);
    }

    private static void way(CheeseValleys x, int day, int[] steps, int... due) {
        Due.write(x, 2, 1, steps);
        for (int what = 0; what < 5; what++) {
            String call = "way(" + day + ", " + java.util.Arrays.toString(steps) + ", " + what + ")";
            DUE.is(call, x.way(day, 2, 1, 0, steps.length, what), due[what]);
        }
    }

    private static int[] steps(int... steps) {
        return steps;
    }

    private static void waysThatCanBe() {
        CheeseValleys x = Due.inLand(Due.PLAIN);
        way(x, 3, steps(), 3, CheeseValleys.NONE, 0, 0, 0);
        way(x, 0, steps(0, 7, 1, 8), 2, CheeseValleys.NONE, 0, 2, 2);
        way(x, 0, steps(6, 6, 0, 7), 3, CheeseValleys.NONE, 2, 1, 1);
        way(x, 0, steps(0, 1, 1, 7, 0), 4, CheeseValleys.NONE, 0, 0, 1);
        way(x, 6, steps(6), 7, CheeseValleys.NONE, 1, 0, 0);
        x = Due.inLand(Due.MIXED);
        way(x, 0, steps(2, 3, 7, 3, 3, 1, 8), 7, CheeseValleys.NONE, 0, 2, 2);
    }

    private static void wrongWay(CheeseValleys x, int day, int[] steps, int wrong) {
        way(x, day, steps, -100 - wrong, wrong, -100 - wrong, -100 - wrong, -100 - wrong);
    }

    private static void waysThatCantBe() {
        CheeseValleys x = Due.inLand(Due.PLAIN);
        wrongWay(x, 0, steps(1), 0);
        wrongWay(x, 0, steps(7), 0);
        wrongWay(x, 0, steps(8), 0);
        wrongWay(x, 0, steps(0, 7, 7), 2);
        wrongWay(x, 0, steps(0, 8), 1);
        wrongWay(x, 0, steps(0, 1, 8), 2);
        wrongWay(x, 0, steps(0, 7, 1, 8, 6), 4);
        wrongWay(x, 0, steps(0, 7, 1, 8, 1, 6), 4);
        wrongWay(x, 0, steps(0, 7, 1, 8, 8), 4);
        wrongWay(x, 7, steps(6), 0);
        wrongWay(x, 7, steps(0), 0);
        x.snow(0, 1);
        wrongWay(x, 0, steps(0), 0);
        x.snow(0, 0);
        x.give(1, 253);
        wrongWay(x, 0, steps(0, 7), 1);
        x.give(1, 255);
        x.give(2, 251);
        wrongWay(x, 0, steps(0, 7, 1, 8), 3);
    }

    private static void waysByMilk() {
        CheeseValleys x = Due.inLand(Due.PLAIN);
        x.give(0, 254);
        wrongWay(x, 0, steps(6, 0), 0);
        way(x, 0, steps(), 0, CheeseValleys.NONE, 0, 0, 0);
        way(x, 1, steps(6, 0), 3, CheeseValleys.NONE, 1, 1, 0);
    }
}
