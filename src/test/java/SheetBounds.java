import java.util.Arrays;

/** Terms 5 and promises 21 to 29: sheets, parts. */
final class SheetBounds {
    private static final int UNKNOWN = CheeseValleys.UNKNOWN, OUTSIDE = CheeseValleys.OUTSIDE, HERE = Cases.HERE;
    private static final int NULL = -11, CAST = -12, INDEX = -13, SIZE = -14;
    private static final int MIN = Integer.MIN_VALUE, MAX = Integer.MAX_VALUE;
    private static final String THREE = "v00000000;255;255;255,p0113,s0114,t0115";

    private final Cases c;

    SheetBounds(Cases c) {
        this.c = c;
    }

    void run() {
        sheets();
        cut();
        sheetCall();
        loseCall();
        putCall();
        cellCall();
        copyCall();
        copyFaults();
        copyIndexes();
        telling();
        marked();
        traceWraps();
        tellAndMarkCalls();
        asCall();
        traceCall();
    }

    private void cells(int k, int lane, int... due) {
        for (int i = 0; i < due.length; i++) {
            c.due(due[i], "cell", k, i, lane);
        }
        c.lost(3, "cell", k, due.length, lane);
    }

    // ---- the terms

    private void sheets() {
        c.terms(5, "SHEETS 0 .. 3 have nothing (at first)");
        for (int k = 0; k < 4; k++) {
            for (int lane = 0; lane < 3; lane++) {
                c.lost(1, "cell", k, 0, lane);
            }
        }
        c.terms(5, ", or a row of 0 .. 60 numbers (0 at first) of a LANE: 0 bytes, 1 shorts, 2 ints");
        for (int k = 0; k < 4; k++) {
            for (int lane = 0; lane < 3; lane++) {
                c.anew();
                c.due(1, "sheet", k, lane, 0);
                cells(k, lane);
                c.due(1, "sheet", k, lane, 1);
                cells(k, lane, 0);
                c.due(1, "sheet", k, lane, 60);
                cells(k, lane, new int[60]);
            }
        }
    }

    private void cut() {
        c.terms(5, "; what comes to a cell of it is cut to its LANE.");
        int[] comes = {
            127, 128, 255, 256, -128, -129, -256, 32767, 32768, 65535, 65536, -32768, -32769, -65536,
            MAX, MIN, MIN + 1, 0x12345678,
        };
        int[] bytes = {127, -128, -1, 0, -128, 127, 0, -1, 0, -1, 0, 0, -1, 0, -1, 0, 1, 0x78};
        int[] shorts = {
            127, 128, 255, 256, -128, -129, -256, 32767, -32768, -1, 0, -32768, 32767, 0, -1, 0, 1, 0x5678,
        };
        c.row(0, 0, comes);
        c.row(1, 1, comes);
        c.row(2, 2, comes);
        cells(0, 0, bytes);
        cells(1, 1, shorts);
        cells(2, 2, comes);
    }

    private void telling() {
        c.terms(5, "TELLING of PASSES by bodies that leave their number in TRACE");
        c.inLand(THREE);
        c.due(0, "trace");
        c.due(3, "tell", 0);
        c.due(1, "trace");
        c.terms(5, "as they begin: PASS (1): how HIGH it is. STEEP (2): what PASS's gives, and 100."
                + " TUNNEL (3): what STEEP's gives, and what PASS's gives (STEEP's left out).");
        for (int high = 0; high <= 9; high += 9) {
            c.inLand("v00000000;255;255;255,p011" + high + ",s011" + high + ",t011" + high);
            c.due(high, "tell", 0);
            c.due(1, "trace");
            // 2 and 1 behind the 1.
            c.due(high + 100, "tell", 1);
            c.due((1 * 31 + 2) * 31 + 1, "trace");
            c.inLand("v00000000;255;255;255,t011" + high);
            c.due(2 * high + 100, "tell", 0);
            c.due(((3 * 31 + 2) * 31 + 1) * 31 + 1, "trace");
        }
    }

    private void marked() {
        c.terms(5, "MARKED by a lent body (4): its number; TUNNELS have their own (5): 80.");
        c.inLand("v00000000;255;255;255,p0119,s0119,t0119,p0119,t0119,s0119");
        int[] due = {0, 1, 80, 3, 80, 5};
        int[] body = {4, 4, 5, 4, 5, 4};
        int trace = 0;
        for (int p = 0; p < 6; p++) {
            c.due(due[p], "mark", p);
            trace = 31 * trace + body[p];
            c.due(trace, "trace");
        }
    }

    private void traceWraps() {
        c.terms(5, "(an int that wraps, 0 at first, becomes 31 times it and the number)");
        c.due(0, "trace");
        c.inLand(THREE);
        c.due(0, "trace");
        int[] ones = {1, 32, 993, 30784, 954305, 29583456, 917087137, -1635069824, 852443009};
        for (int due : ones) {
            c.does("tell", 0);
            c.due(due, "trace");
        }
        c.inLand(THREE);
        int[] tunnels = {91327, -1556852226, 1822459837, -1787968004, -52179781};
        for (int due : tunnels) {
            c.does("tell", 2);
            c.due(due, "trace");
        }
        c.inLand(THREE);
        int[] fives = {5, 160, 4965, 153920, 4771525, 147917280, 290468389, 414585472};
        for (int due : fives) {
            c.does("mark", 2);
            c.due(due, "trace");
        }
    }

    // ---- the calls of sheets

    private void ready() {
        c.inLand(THREE);
        c.row(0, 0, 1, 2, 3, 4, 5);
        c.row(1, 1, 6, 7, 8);
        c.row(2, 2);
    }

    private void sheetCall() {
        c.promise(21, "A SHEET gets a new row: 1.");
        ready();
        c.due(1, "sheet", 0, 0, 5);
        c.due(0, "fault");
        cells(0, 0, 0, 0, 0, 0, 0);
        c.due(1, "sheet", 1, 2, 4);
        cells(1, 2, 0, 0, 0, 0);
        c.due(1, "sheet", 3, 1, 0);
        cells(3, 1);
        c.promise(21, "UNKNOWN");
        ready();
        c.outside(UNKNOWN, 0, 3, "sheet", HERE, 3, 61);
        c.outside(UNKNOWN, 0, 3, "sheet", HERE, 0, -1);
        c.outside(UNKNOWN, 0, 3, "sheet", HERE, 0, 0);
        c.promise(21, "OUTSIDE: lane, n above 60");
        ready();
        for (int k = 0; k < 4; k++) {
            c.outside(OUTSIDE, 0, 2, "sheet", k, HERE, 60);
        }
        c.outside(OUTSIDE, 0, 2, "sheet", 0, HERE, -1);
        for (int n : new int[] {61, 62, 256, 316, 65536, MAX - 1, MAX}) {
            c.refused(OUTSIDE, "sheet", 0, 0, n);
            c.refused(OUTSIDE, "sheet", 3, 2, n);
        }
        c.promise(21, "SIZE.");
        ready();
        for (int n : new int[] {-1, -2, -256, MIN, MIN + 1, MIN + 60}) {
            c.refused(SIZE, "sheet", 0, 0, n);
            c.refused(SIZE, "sheet", 3, 2, n);
        }
    }

    private void loseCall() {
        c.promise(22, "A SHEET has nothing: 1; 0: it had nothing.");
        ready();
        for (int k = 0; k < 4; k++) {
            c.due(k < 3 ? 1 : 0, "lose", k);
            c.lost(1, "cell", k, 0, 0);
            c.due(0, "lose", k);
        }
        // What it had is not there in its next row.
        c.does("sheet", 0, 0, 5);
        cells(0, 0, 0, 0, 0, 0, 0);
        c.promise(22, "UNKNOWN.");
        c.outside(UNKNOWN, 0, 3, "lose", HERE);
        ready();
        c.outside(UNKNOWN, 0, 3, "lose", HERE);
    }

    private void putCall() {
        c.promise(23, "Cell i of a SHEET becomes v: 1.");
        ready();
        c.due(1, "put", 0, 0, 9);
        c.due(1, "put", 0, 4, -9);
        c.due(0, "fault");
        cells(0, 0, 9, 2, 3, 4, -9);
        c.does("sheet", 3, 2, 60);
        c.due(1, "put", 3, 59, MIN);
        c.due(MIN, "cell", 3, 59, 2);
        c.refused(INDEX, "put", 3, 60, 1);
        c.promise(23, "UNKNOWN");
        ready();
        c.outside(UNKNOWN, 0, 3, "put", HERE, 0, 0);
        c.outside(UNKNOWN, 0, 3, "put", HERE, -1, 7);
        c.promise(23, "NULL");
        ready();
        for (int i : new int[] {-1, 0, 60, MIN, MAX}) {
            c.refused(NULL, "put", 3, i, 7);
        }
        c.promise(23, "INDEX.");
        ready();
        c.outside(INDEX, 0, 4, "put", 0, HERE, 7);
        c.outside(INDEX, 0, 2, "put", 1, HERE, 7);
        c.outside(INDEX, 0, -1, "put", 2, HERE, 7);
    }

    private void cellCall() {
        c.promise(24, "Cell i of what a SHEET has, taken as a row of a LANE.");
        ready();
        cells(0, 0, 1, 2, 3, 4, 5);
        cells(1, 1, 6, 7, 8);
        cells(2, 2);
        c.due(1, "cell", 0, 0, 0);
        c.due(0, "fault");
        c.promise(24, "LOST: UNKNOWN");
        ready();
        c.lostOutside(0, 0, 3, "cell", HERE, 0, 0);
        c.lostOutside(0, 0, 3, "cell", HERE, -1, 3);
        c.promise(24, ", OUTSIDE: lane");
        ready();
        for (int k = 0; k < 4; k++) {
            c.lostOutside(0, 0, 2, "cell", k, 0, HERE);
            c.lostOutside(0, 0, 2, "cell", k, -1, HERE);
        }
        c.promise(24, "FAULTS CAST (nothing is no CAST)");
        ready();
        for (int k = 0; k < 3; k++) {
            for (int lane = 0; lane < 3; lane++) {
                c.lost(lane == k ? 3 : 2, "cell", k, -1, lane);
            }
            c.lost(1, "cell", 3, -1, k);
        }
        c.lost(2, "cell", 0, 0, 1);
        c.promise(24, ", NULL");
        ready();
        for (int i : new int[] {-1, 0, 60, MIN, MAX}) {
            c.lost(1, "cell", 3, i, 0);
        }
        c.promise(24, ", INDEX.");
        ready();
        c.lostOutside(3, 0, 4, "cell", 0, HERE, 0);
        c.lostOutside(3, 0, 2, "cell", 1, HERE, 1);
        c.lostOutside(3, 0, -1, "cell", 2, HERE, 2);
    }

    private void copyCall() {
        c.promise(25, "n cells of a SHEET from i on go to another one (perhaps the same) from j on, as they were: n.");
        ready();
        c.row(3, 0, 11, 12, 13);
        c.due(2, "copy", 0, 3, 3, 1, 2);
        c.due(0, "fault");
        cells(3, 0, 11, 4, 5);
        cells(0, 0, 1, 2, 3, 4, 5);
        c.due(4, "copy", 0, 0, 0, 1, 4);
        cells(0, 0, 1, 1, 2, 3, 4);
        c.due(4, "copy", 0, 1, 0, 0, 4);
        cells(0, 0, 1, 2, 3, 4, 4);
        c.due(5, "copy", 0, 0, 0, 0, 5);
        cells(0, 0, 1, 2, 3, 4, 4);
        // None is taken, from each end and of a row of no cells.
        c.due(0, "copy", 0, 5, 3, 3, 0);
        c.due(0, "copy", 0, 0, 3, 0, 0);
        c.due(0, "copy", 2, 0, 2, 0, 0);
        cells(3, 0, 11, 4, 5);
        // A row that is full.
        c.anew();
        int[] full = new int[60];
        Arrays.setAll(full, i -> i * i - 1000000);
        c.row(1, 2, full);
        c.does("sheet", 2, 2, 60);
        c.due(60, "copy", 1, 0, 2, 0, 60);
        cells(2, 2, full);
    }

    private void copyFaults() {
        c.promise(25, "UNKNOWN");
        ready();
        c.outside(UNKNOWN, 0, 3, "copy", HERE, 0, 0, 0, 1);
        c.outside(UNKNOWN, 0, 3, "copy", 0, 0, HERE, 0, 1);
        c.outside(UNKNOWN, 0, 3, "copy", HERE, -1, 3, -1, -1);
        c.outside(UNKNOWN, 0, 3, "copy", 3, -1, HERE, -1, -1);
        c.promise(25, "FAULTS NULL (the first, the other)");
        ready();
        c.refused(NULL, "copy", 3, 0, 0, 0, 0);
        c.refused(NULL, "copy", 0, 0, 3, 0, 0);
        c.refused(NULL, "copy", 3, 0, 3, 0, 0);
        c.refused(NULL, "copy", 3, -1, 1, -1, -1);
        c.refused(NULL, "copy", 1, -1, 3, -1, -1);
        c.promise(25, ", CAST (unlike LANES)");
        ready();
        for (int k = 0; k < 3; k++) {
            for (int other = 0; other < 3; other++) {
                c.refused(k == other ? INDEX : CAST, "copy", k, -1, other, -1, -1);
            }
        }
        c.refused(CAST, "copy", 0, 0, 1, 0, 1);
        c.refused(CAST, "copy", 0, 0, 2, 0, 0);
    }

    private void copyIndexes() {
        c.promise(25, ", INDEX: i, j, n below 0 or beyond.");
        ready();
        c.row(3, 0, 11, 12, 13);
        c.refused(INDEX, "copy", 0, -1, 3, 0, 1);
        c.refused(INDEX, "copy", 0, 0, 3, -1, 1);
        c.refused(INDEX, "copy", 0, 0, 3, 0, -1);
        c.refused(INDEX, "copy", 0, 0, 3, 0, 4);
        c.refused(INDEX, "copy", 0, 3, 3, 0, 3);
        c.refused(INDEX, "copy", 0, 0, 3, 1, 3);
        c.refused(INDEX, "copy", 3, 0, 0, 0, 4);
        c.refused(INDEX, "copy", 3, 0, 0, 3, 3);
        c.outside(INDEX, 0, 3, "copy", 0, HERE, 3, 0, 2);
        c.outside(INDEX, 0, 1, "copy", 0, 0, 3, HERE, 2);
        c.outside(INDEX, 0, 3, "copy", 0, 0, 3, 0, HERE);
        c.outside(INDEX, 0, 5, "copy", 0, HERE, 3, 0, 0);
        c.outside(INDEX, 0, 3, "copy", 0, 0, 3, HERE, 0);
        // Sums that would wrap.
        c.refused(INDEX, "copy", 0, 5, 3, 3, MAX);
        c.refused(INDEX, "copy", 0, MAX, 3, MAX, MAX);
        c.refused(INDEX, "copy", 0, MIN, 3, 0, MIN);
        c.refused(INDEX, "copy", 2, 0, 2, 0, 1);
        c.outside(INDEX, 0, 0, "copy", 2, HERE, 2, 0, 0);
    }

    // ---- the calls of parts

    private void tellAndMarkCalls() {
        CommonBounds common = new CommonBounds(c);
        c.promise(26, "TELLING of a PASS.");
        c.inLand(THREE);
        c.due(3, "tell", 0);
        c.due(104, "tell", 1);
        c.due(110, "tell", 2);
        common.refusalsOfAPass(26, "tell");
        c.promise(27, "How it is MARKED.");
        c.inLand(THREE);
        c.due(0, "mark", 0);
        c.due(1, "mark", 1);
        c.due(80, "mark", 2);
        common.refusalsOfAPass(27, "mark");
    }

    private void asCall() {
        c.promise(28, "A PASS, taken as one of a kind: 1.");
        c.inLand(THREE);
        for (int p = 0; p < 3; p++) {
            c.due(1, "as", p, p);
            c.due(0, "fault");
        }
        c.promise(28, "UNKNOWN");
        c.outside(UNKNOWN, 0, -1, "as", HERE, 3);
        c.inLand(THREE);
        c.outside(UNKNOWN, 0, 2, "as", HERE, 0);
        c.outside(UNKNOWN, 0, 2, "as", HERE, 3);
        c.promise(28, "OUTSIDE");
        c.inLand(THREE);
        for (int p = 0; p < 3; p++) {
            c.outside(OUTSIDE, 0, 2, "as", p, HERE);
        }
        c.promise(28, "CAST: it is none (each is a PASS, too; a TUNNEL is STEEP).");
        c.inLand(THREE);
        c.refused(CAST, "as", 0, 1);
        c.refused(CAST, "as", 0, 2);
        c.refused(CAST, "as", 1, 2);
        c.due(1, "as", 1, 0);
        c.due(1, "as", 2, 0);
        c.due(1, "as", 2, 1);
        c.due(0, "fault");
    }

    private void traceCall() {
        c.promise(29, "TRACE.");
        c.due(0, "trace");
        c.inLand(THREE);
        c.does("mark", 0);
        c.due(4, "trace");
        // No other call leaves a number, not even one that asks for kinds, nor a new land.
        c.does("as", 0, 0);
        c.does("as", 0, 2);
        c.does("kinds", 0);
        c.does("heights", 2);
        c.does("ofPass", 2, 5);
        c.does("open", 0);
        c.does("soonest", 0);
        c.does("mark", 3);
        c.does("tell", -1);
        c.due(4, "trace");
        c.text(THREE);
        c.does("land", 0, 0, 0, 27);
        c.due(4, "trace");
    }
}
