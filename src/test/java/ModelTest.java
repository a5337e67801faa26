import java.util.ArrayList;
import java.util.List;
import java.util.Random;

/** Runs of calls, some likely and some wild, each answered by the class and by the model. */
public final class ModelTest {
    private static final int RUNS = 600;
    /** Calls of telling a land, and a way. */
    private static final int LONGEST_TELLING = 62, LONGEST_WAY = 14;
    private static final int READING = 12;
    private static final int[] WILD = {
        Integer.MIN_VALUE, Integer.MIN_VALUE + 1, -100, -9, -2, -1, 0, 8, 9, 60, 61, 255, 256,
        Integer.MAX_VALUE - 1, Integer.MAX_VALUE,
    };

    private final Random random;
    private final List<String> calls = new ArrayList<>();
    private final int wildness;
    private CheeseValleys x = new CheeseValleys();
    private Model model = new Model();
    private final Tally tally = new Tally();
    /** The cells by which a land was told latest: sheet, lane, from, how many. */
    private int[] told = {0, 0, 0, 0};
    private int made;
    private boolean wrong;

    private ModelTest(long seed) {
        random = new Random(seed);
        wildness = seed % 3 == 0 ? 8 : 40;
    }

    public static void main(String[] args) {
        int runs = args.length > 0 ? Integer.parseInt(args[0]) : RUNS;
        int failed = 0;
        int rich = 0;
        for (int run = 0; run < runs && failed < 5; run++) {
            ModelTest test = new ModelTest(run);
            test.run();
            rich += test.tally.isRich() ? 1 : 0;
            if (test.wrong) {
                failed++;
                System.out.println("run " + run + ": " + String.join("\n  ", test.calls));
            }
        }
        if (rich < runs / 3) {
            System.out.println("only " + rich + " of " + runs + " runs have all that runs are for");
        }
        if (failed != 0 || rich < runs / 3) {
            System.exit(1);
        }
    }

    private void run() {
        if (random.nextInt(10) > 0) {
            tellLand();
        }
        while (left() > 0 && !wrong) {
            int choice = random.nextInt(100);
            if (choice < 1 && left() >= LONGEST_TELLING) {
                tellLand();
            } else if (choice < 3) {
                land(told[0], told[1], told[2], told[3]);
            } else if (choice < 7 && left() >= LONGEST_WAY) {
                tellWay();
            } else if (choice < 13) {
                oneCall(READING);
            } else {
                oneCall(random.nextInt(31));
            }
        }
    }

    private int left() {
        return Run.MOST_CALLS - made;
    }

    private void due(String call, long got, long want) {
        made++;
        tally.count(call, got);
        calls.add(call + " = " + got);
        if (got != want && !wrong) {
            wrong = true;
            calls.add("due is " + want);
        }
    }

    private int number(int below) {
        return random.nextInt(wildness) == 0 ? WILD[random.nextInt(WILD.length)] : random.nextInt(below);
    }

    /** Giving on most days makes wheels that can be done. */
    private int days() {
        return random.nextInt(256) | random.nextInt(256);
    }

    private String text() {
        StringBuilder text = new StringBuilder("v");
        for (int day = 0; day < 8; day++) {
            text.append(random.nextInt(random.nextInt(3) == 0 ? 10 : 4));
        }
        for (int valley = 0; valley < 3; valley++) {
            text.append(String.format(";%03d", valley == 0 || random.nextInt(3) > 0 ? days() : random.nextInt(256)));
        }
        int passes = 1 + Math.max(random.nextInt(6), random.nextInt(6));
        for (int p = 0; p < passes; p++) {
            int first = random.nextInt(3);
            int second = (first + 1 + random.nextInt(2)) % 3;
            text.append(',').append("pst".charAt(random.nextInt(3))).append(first).append(second);
            text.append(1 + Math.min(random.nextInt(3), random.nextInt(3)));
            text.append(Math.max(random.nextInt(10), random.nextInt(10)));
        }
        return random.nextInt(5) == 0 ? spoilt(text) : text.toString();
    }

    private String spoilt(StringBuilder text) {
        int place = random.nextInt(text.length());
        switch (random.nextInt(4)) {
            case 0: return text.substring(0, place);
            case 1: return text.append("v,;p0".charAt(random.nextInt(5))).toString();
            case 2: return text.deleteCharAt(place).toString();
            default:
                text.setCharAt(place, "v,;pst0123456789x".charAt(random.nextInt(17)));
                return text.toString();
        }
    }

    private void tellLand() {
        String text = text();
        int k = random.nextInt(4);
        int lane = random.nextInt(3);
        int from = random.nextInt(61 - text.length());
        int more = random.nextInt(61 - text.length() - from);
        sheet(k, lane, from + text.length() + more);
        for (int i = 0; i < text.length(); i++) {
            put(k, from + i, text.charAt(i));
        }
        told = new int[] {k, lane, from, text.length()};
        land(k, lane, from, text.length());
    }

    private void tellWay() {
        int k = random.nextInt(4);
        int lane = random.nextInt(3);
        int n = random.nextInt(9);
        sheet(k, lane, n);
        int passes = (int) Math.max(1, model.many(0));
        for (int i = 0; i < n; i++) {
            int choice = random.nextInt(20);
            int step = choice < 9 ? random.nextInt(passes) : choice < 13 ? 7 : choice < 16 ? 8 : 6;
            put(k, i, choice == 19 ? number(9) : step);
        }
        int day = random.nextInt(4);
        for (int what = 0; what < 5; what++) {
            way(day, k, lane, 0, n, what);
        }
    }

    private void sheet(int k, int lane, int n) {
        due("sheet(" + k + ", " + lane + ", " + n + ")", x.sheet(k, lane, n), model.sheet(k, lane, n));
    }

    private void put(int k, int i, int v) {
        due("put(" + k + ", " + i + ", " + v + ")", x.put(k, i, v), model.put(k, i, v));
    }

    private void land(int k, int lane, int i, int n) {
        String call = "land(" + k + ", " + lane + ", " + i + ", " + n + ")";
        due(call, x.land(k, lane, i, n), model.land(k, lane, i, n));
    }

    private void way(int day, int k, int lane, int i, int n, int what) {
        String call = "way(" + day + ", " + k + ", " + lane + ", " + i + ", " + n + ", " + what + ")";
        due(call, x.way(day, k, lane, i, n, what), model.way(day, k, lane, i, n, what));
    }

    private void oneCall(int call) {
        if (call < 20) {
            callOfLand(call);
        } else {
            callOfSheets(call);
        }
        if (left() > 0 && random.nextInt(4) == 0) {
            due("fault()", x.fault(), model.fault());
        }
    }

    private void callOfLand(int call) {
        int day = random.nextBoolean() ? random.nextInt(4) : number(8);
        int fair = random.nextInt(2) == 0 ? 7 : number(8);
        int p = number(6);
        int valley = number(3);
        int a = number(10);
        int what = number(2);
        String args = "(" + day + ", " + fair + ")";
        switch (call) {
            case 0: land(number(4), number(3), number(5), number(61)); break;
            case 1: due("ofPass(" + p + ", " + a + ")", x.ofPass(p, a), model.ofPass(p, a)); break;
            case 2: snow(day, random.nextBoolean() ? a : a / 4); break;
            case 3: give(valley, random.nextInt(3) == 0 ? number(256) : days()); break;
            case 4: due("open(" + day + ")", x.open(day), model.open(day)); break;
            case 5: due("soonest(" + day + ")", x.soonest(day), model.soonest(day)); break;
            case 6: due("holes(" + day + ")", x.holes(day), model.holes(day)); break;
            case 7: way(day, number(4), number(3), number(5), number(21), number(5)); break;
            case 8: due("last(" + fair + ")", x.last(fair), model.last(fair)); break;
            case 9: due("safe(" + fair + ")", x.safe(fair), model.safe(fair)); break;
            case 10: due("hangs" + args, x.hangs(day, fair), model.hangs(day, fair)); break;
            case 11: due("peace" + args, x.peace(day, fair), model.peace(day, fair)); break;
            case READING: reading(day); break;
            case 13: due("back(" + what + ")", x.back(what), model.back(what)); break;
            case 14: due("snows(" + day + ")", x.snows(day), model.snows(day)); break;
            case 15: due("heights(" + p + ")", x.heights(p), model.heights(p)); break;
            case 16: due("kinds(" + p + ")", x.kinds(p), model.kinds(p)); break;
            case 17: due("gave(" + valley + ", " + what + ")", x.gave(valley, what), model.gave(valley, what)); break;
            case 18: odds(valley, day, fair, what); break;
            default: due("many(" + a + ")", x.many(a), model.many(a)); break;
        }
    }

    private void snow(int day, int v) {
        due("snow(" + day + ", " + v + ")", x.snow(day, v), model.snow(day, v));
    }

    private void give(int valley, int set) {
        due("give(" + valley + ", " + set + ")", x.give(valley, set), model.give(valley, set));
    }

    /** Mostly what is so, that the readings do not all go against one another. */
    private void reading(int day) {
        int soonest = (int) model.soonest(day);
        int done = soonest == CheeseValleys.STATE || random.nextInt(6) == 0 ? number(8) : soonest;
        due("reading(" + day + ", " + done + ")", x.reading(day, done), model.reading(day, done));
    }

    private void odds(int valley, int day, int fair, int which) {
        String call = "odds(" + valley + ", " + day + ", " + fair + ", " + which + ")";
        due(call, x.odds(valley, day, fair, which), model.odds(valley, day, fair, which));
    }

    private void callOfSheets(int call) {
        int k = number(4);
        int i = number(12);
        int j = number(12);
        int n = number(8);
        int lane = random.nextBoolean() ? 1 : number(3);
        int p = number(6);
        switch (call) {
            case 20: sheet(k, lane, random.nextInt(3) == 0 ? number(62) : number(12)); break;
            case 21: due("lose(" + k + ")", x.lose(k), model.lose(k)); break;
            case 22: put(k, i, random.nextInt()); break;
            case 23: put(k, i, number(9)); break;
            case 24: due("cell(" + k + ", " + i + ", " + lane + ")", x.cell(k, i, lane), model.cell(k, i, lane)); break;
            case 25: copy(k, i, number(4), j, n); break;
            case 26: due("tell(" + p + ")", x.tell(p), model.tell(p)); break;
            case 27: due("mark(" + p + ")", x.mark(p), model.mark(p)); break;
            case 28: due("as(" + p + ", " + lane + ")", x.as(p, lane), model.as(p, lane)); break;
            case 29: due("trace()", x.trace(), model.trace()); break;
            default: due("fault()", x.fault(), model.fault()); break;
        }
    }

    private void copy(int k, int i, int other, int j, int n) {
        String call = "copy(" + k + ", " + i + ", " + other + ", " + j + ", " + n + ")";
        due(call, x.copy(k, i, other, j, n), model.copy(k, i, other, j, n));
    }
}
