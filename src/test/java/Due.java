/** Counts answers that are not the ones due, and tells lands to objects. */
final class Due {
    /** All passes are open on all days and take a day, all valleys give on all days. */
    static final String PLAIN = "v00000000;255;255;255,p0111,p1211";
    /** All kinds, some snow: the same land as in the shared tests. */
    static final String MIXED = "v12012300;255;170;204,p0123,s1214,t0231,p2113";

    private final String test;
    private int wrong;

    Due(String test) {
        this.test = test;
    }

    void is(String call, long got, long want) {
        if (got != want) {
            wrong++;
            System.out.println(test + ": " + call + " answered " + got + ", due is " + want);
        }
    }

    void end() {
        if (wrong != 0) {
            System.exit(1);
        }
    }

    static void write(CheeseValleys x, int sheet, int lane, int... cells) {
        x.sheet(sheet, lane, cells.length);
        for (int i = 0; i < cells.length; i++) {
            x.put(sheet, i, cells[i]);
        }
    }

    static int[] codes(String text) {
        return text.chars().toArray();
    }

    static int landBy(CheeseValleys x, String text) {
        write(x, 0, 0, codes(text));
        return x.land(0, 0, 0, text.length());
    }

    static CheeseValleys inLand(String text) {
        CheeseValleys x = new CheeseValleys();
        landBy(x, text);
        return x;
    }
}
