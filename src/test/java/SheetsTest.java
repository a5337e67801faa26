/** Promises 21 to 30: sheets, parts. */
public final class SheetsTest {
    private static final Due DUE = new Due("SheetsTest");
    private static final long LOST = CheeseValleys.LOST;

    public static void main(String[] args) {
        sheet();
        lose();
        put();
        cell();
        cutToLanes();
        faultsOfCopy();
        copy();
        tell();
        mark();
        traceWraps();
        as();
        fault();
        DUE.end();
    }

    private static void sheet() {
        CheeseValleys x = new CheeseValleys();
        DUE.is("sheet(4, 3, 61)", x.sheet(4, 3, 61), CheeseValleys.UNKNOWN);
        DUE.is("sheet(-1, 0, 0)", x.sheet(-1, 0, 0), CheeseValleys.UNKNOWN);
        DUE.is("sheet(0, 3, -1)", x.sheet(0, 3, -1), CheeseValleys.OUTSIDE);
        DUE.is("sheet(0, -1, 0)", x.sheet(0, -1, 0), CheeseValleys.OUTSIDE);
        DUE.is("sheet(0, 0, 61)", x.sheet(0, 0, 61), CheeseValleys.OUTSIDE);
        DUE.is("sheet(0, 0, -1)", x.sheet(0, 0, -1), -14);
        DUE.is("fault()", x.fault(), 4);
        DUE.is("lose(0): still nothing", x.lose(0), 0);
        DUE.is("sheet(0, 0, 60)", x.sheet(0, 0, 60), 1);
        DUE.is("fault()", x.fault(), 0);
        x.put(0, 59, 5);
        DUE.is("sheet(0, 0, -1)", x.sheet(0, 0, -1), -14);
        DUE.is("cell(0, 59, 0): the row stays", x.cell(0, 59, 0), 5);
        DUE.is("sheet(0, 0, 60) again", x.sheet(0, 0, 60), 1);
        DUE.is("cell(0, 59, 0): a new row", x.cell(0, 59, 0), 0);
        DUE.is("sheet(3, 2, 0)", x.sheet(3, 2, 0), 1);
        DUE.is("cell(3, 0, 2)", x.cell(3, 0, 2), LOST);
        DUE.is("fault()", x.fault(), 3);
    }

    private static void lose() {
        CheeseValleys x = new CheeseValleys();
        DUE.is("lose(4)", x.lose(4), CheeseValleys.UNKNOWN);
        DUE.is("lose(-1)", x.lose(-1), CheeseValleys.UNKNOWN);
        DUE.is("lose(2)", x.lose(2), 0);
        x.sheet(2, 1, 0);
        DUE.is("lose(2), an empty row", x.lose(2), 1);
        DUE.is("lose(2) again", x.lose(2), 0);
        DUE.is("put(2, 0, 0)", x.put(2, 0, 0), -11);
    }

    private static void put() {
        CheeseValleys x = new CheeseValleys();
        DUE.is("put(4, ..)", x.put(4, 0, 0), CheeseValleys.UNKNOWN);
        DUE.is("put(-1, ..)", x.put(-1, 0, 0), CheeseValleys.UNKNOWN);
        DUE.is("put into nothing", x.put(0, -1, 0), -11);
        DUE.is("fault()", x.fault(), 1);
        x.sheet(0, 2, 3);
        DUE.is("put(0, 3, 1)", x.put(0, 3, 1), -13);
        DUE.is("put(0, -1, 1)", x.put(0, -1, 1), -13);
        DUE.is("put(0, MAX, 1)", x.put(0, Integer.MAX_VALUE, 1), -13);
        DUE.is("fault()", x.fault(), 3);
        DUE.is("put(0, 2, 7)", x.put(0, 2, 7), 1);
        DUE.is("fault()", x.fault(), 0);
        DUE.is("cell(0, 2, 2)", x.cell(0, 2, 2), 7);
        DUE.is("cell(0, 1, 2)", x.cell(0, 1, 2), 0);
    }

    private static void lost(CheeseValleys x, int k, int i, int lane, int fault) {
        String call = "cell(" + k + ", " + i + ", " + lane + ")";
        x.sheet(3, 0, -1);
        DUE.is(call, x.cell(k, i, lane), LOST);
        DUE.is("fault() of " + call, x.fault(), fault);
    }

    private static void cell() {
        CheeseValleys x = new CheeseValleys();
        lost(x, 4, 0, 0, 0);
        lost(x, -1, 0, 0, 0);
        lost(x, 0, 0, 3, 0);
        lost(x, 0, 0, -1, 0);
        lost(x, 0, -1, 0, 1);
        x.sheet(0, 1, 4);
        lost(x, 0, -1, 0, 2);
        lost(x, 0, 0, 2, 2);
        lost(x, 0, -1, 1, 3);
        lost(x, 0, 4, 1, 3);
        DUE.is("cell(0, 3, 1)", x.cell(0, 3, 1), 0);
        DUE.is("fault()", x.fault(), 0);
    }

    private static void cutToLanes() {
        CheeseValleys x = new CheeseValleys();
        int[] numbers = {127, 128, -129, 32767, 32768, -32769, 65536, Integer.MAX_VALUE, Integer.MIN_VALUE};
        for (int lane = 0; lane < 3; lane++) {
            Due.write(x, lane, lane, numbers);
        }
        for (int i = 0; i < numbers.length; i++) {
            DUE.is("a byte of " + numbers[i], x.cell(0, i, 0), (byte) numbers[i]);
            DUE.is("a short of " + numbers[i], x.cell(1, i, 1), (short) numbers[i]);
            DUE.is("an int of " + numbers[i], x.cell(2, i, 2), numbers[i]);
        }
    }

    private static void faultOfCopy(int due, int got, CheeseValleys x) {
        DUE.is("copy", got, -10 - due);
        DUE.is("fault() of copy", x.fault(), due);
    }

    private static void faultsOfCopy() {
        CheeseValleys x = new CheeseValleys();
        DUE.is("copy(4, .. 0, ..)", x.copy(4, 0, 0, 0, 0), CheeseValleys.UNKNOWN);
        DUE.is("copy(0, .. 4, ..)", x.copy(0, 0, 4, 0, 0), CheeseValleys.UNKNOWN);
        DUE.is("copy(-1, .. 0, ..)", x.copy(-1, 0, 0, 0, 0), CheeseValleys.UNKNOWN);
        faultOfCopy(1, x.copy(0, 0, 1, 0, 0), x);
        x.sheet(0, 0, 5);
        faultOfCopy(1, x.copy(0, -1, 1, 0, 0), x);
        faultOfCopy(1, x.copy(1, -1, 0, 0, 0), x);
        x.sheet(1, 1, 3);
        faultOfCopy(2, x.copy(0, -1, 1, 0, 0), x);
        x.sheet(1, 0, 3);
        faultOfCopy(3, x.copy(0, -1, 1, 0, 1), x);
        faultOfCopy(3, x.copy(0, 0, 1, -1, 1), x);
        faultOfCopy(3, x.copy(0, 0, 1, 0, -1), x);
        faultOfCopy(3, x.copy(0, 0, 1, 0, 4), x);
        faultOfCopy(3, x.copy(0, 3, 1, 0, 3), x);
        faultOfCopy(3, x.copy(0, 6, 1, 0, 0), x);
        faultOfCopy(3, x.copy(0, 0, 1, 4, 0), x);
        faultOfCopy(3, x.copy(0, 1, 1, 1, Integer.MAX_VALUE), x);
        DUE.is("copy of none, from the ends", x.copy(0, 5, 1, 3, 0), 0);
        DUE.is("fault()", x.fault(), 0);
    }

    private static void cells(CheeseValleys x, int k, int... due) {
        for (int i = 0; i < due.length; i++) {
            DUE.is("cell(" + k + ", " + i + ", 1)", x.cell(k, i, 1), due[i]);
        }
    }

    private static void copy() {
        CheeseValleys x = new CheeseValleys();
        Due.write(x, 0, 1, 1, 2, 3, 4, 5);
        x.sheet(1, 1, 3);
        DUE.is("copy to another", x.copy(0, 3, 1, 1, 2), 2);
        cells(x, 1, 0, 4, 5);
        DUE.is("copy upwards in the same", x.copy(0, 0, 0, 1, 4), 4);
        cells(x, 0, 1, 1, 2, 3, 4);
        DUE.is("copy downwards in the same", x.copy(0, 2, 0, 0, 3), 3);
        cells(x, 0, 2, 3, 4, 3, 4);
    }

    private static int traceOf(int... bodies) {
        int trace = 0;
        for (int body : bodies) {
            trace = 31 * trace + body;
        }
        return trace;
    }

    private static void tell() {
        CheeseValleys x = Due.inLand("v00000000;255;255;255,p0113,s0114,t0115");
        DUE.is("tell(3)", x.tell(3), CheeseValleys.UNKNOWN);
        DUE.is("tell(-1)", x.tell(-1), CheeseValleys.UNKNOWN);
        DUE.is("trace()", x.trace(), 0);
        DUE.is("tell(0)", x.tell(0), 3);
        DUE.is("trace()", x.trace(), traceOf(1));
        DUE.is("tell(1)", x.tell(1), 104);
        DUE.is("trace()", x.trace(), traceOf(1, 2, 1));
        DUE.is("tell(2)", x.tell(2), 110);
        DUE.is("trace()", x.trace(), traceOf(1, 2, 1, 3, 2, 1, 1));
        x.land(0, 0, 0, 27);
        DUE.is("trace(): a new land leaves it", x.trace(), traceOf(1, 2, 1, 3, 2, 1, 1));
    }

    private static void mark() {
        CheeseValleys x = Due.inLand("v00000000;255;255;255,p0113,s0114,t0115,p1219");
        DUE.is("mark(4)", x.mark(4), CheeseValleys.UNKNOWN);
        DUE.is("mark(-1)", x.mark(-1), CheeseValleys.UNKNOWN);
        DUE.is("trace()", x.trace(), 0);
        DUE.is("mark(3)", x.mark(3), 3);
        DUE.is("mark(1)", x.mark(1), 1);
        DUE.is("mark(2)", x.mark(2), 80);
        DUE.is("mark(0)", x.mark(0), 0);
        DUE.is("trace()", x.trace(), traceOf(4, 4, 5, 4));
    }

    private static void traceWraps() {
        CheeseValleys x = Due.inLand("v00000000;255;255;255,t0115");
        int[] bodies = new int[80];
        for (int k = 0; k < 20; k++) {
            x.tell(0);
            bodies[4 * k] = 3;
            bodies[4 * k + 1] = 2;
            bodies[4 * k + 2] = 1;
            bodies[4 * k + 3] = 1;
        }
        DUE.is("trace()", x.trace(), traceOf(bodies));
    }

    private static void as() {
        CheeseValleys x = Due.inLand("v00000000;255;255;255,p0113,s0114,t0115");
        for (int p = 0; p < 3; p++) {
            for (int kind = 0; kind < 3; kind++) {
                DUE.is("as(" + p + ", " + kind + ")", x.as(p, kind), kind <= p ? 1 : -12);
                DUE.is("fault()", x.fault(), kind <= p ? 0 : 2);
            }
        }
        x.as(0, 2);
        DUE.is("as(3, 3)", x.as(3, 3), CheeseValleys.UNKNOWN);
        DUE.is("fault() of a refusal", x.fault(), 0);
        DUE.is("as(-1, 0)", x.as(-1, 0), CheeseValleys.UNKNOWN);
        DUE.is("as(0, 3)", x.as(0, 3), CheeseValleys.OUTSIDE);
        DUE.is("as(0, -1)", x.as(0, -1), CheeseValleys.OUTSIDE);
    }

    private static void fault() {
        CheeseValleys x = new CheeseValleys();
        x.put(0, 0, 0);
        // These name no fault: they leave what the latest call that names one came to.
        x.lose(0);
        x.many(0);
        x.soonest(0);
        x.ofPass(0, 0);
        x.back(0);
        x.odds(1, 0, 0, 0);
        x.tell(0);
        x.mark(0);
        x.trace();
        DUE.is("fault()", x.fault(), 1);
        DUE.is("fault() again", x.fault(), 1);
        x.as(0, 0);
        DUE.is("fault() of a refused as", x.fault(), 0);
        x.put(0, 0, 0);
        x.way(0, 4, 0, 0, 0, 0);
        DUE.is("fault() of a refused way", x.fault(), 0);
        x.put(0, 0, 0);
        x.copy(0, 0, 4, 0, 0);
        DUE.is("fault() of a refused copy", x.fault(), 0);
        x.put(0, 0, 0);
        x.sheet(0, 0, 61);
        DUE.is("fault() of a refused sheet", x.fault(), 0);
        x.put(0, 0, 0);
        x.put(4, 0, 0);
        DUE.is("fault() of a refused put", x.fault(), 0);
    }
}
