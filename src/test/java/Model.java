import java.util.ArrayList;
import java.util.List;
import java.util.regex.Matcher;
import java.util.regex.Pattern;

/**
 * A second program for the same document, plain and slow: it walks every way forward, reads texts by
 * a pattern, and leaves faults to the Java machine, so that it shares no thought with the class.
 */
final class Model {
    private static final int UNKNOWN = -1, OUTSIDE = -2, STATE = -3, FULL = -4, NONE = -9;
    private static final Pattern TEXT = Pattern.compile(
            "v[0-9]{8}(?:;(?:[01][0-9][0-9]|2[0-4][0-9]|25[0-5])){3}"
            + "(?:,[pst](?:0[12]|1[02]|2[01])[1-3][0-9]){1,6}");

    interface Marked {
        int number();

        default int marked(Model model) {
            model.leave(4);
            return number();
        }
    }

    static class Pass implements Marked {
        int number;
        int first;
        int second;
        int length;
        int height;

        @Override
        public int number() {
            return number;
        }

        int takes() {
            return length;
        }

        boolean isOpen(int snow) {
            return height > snow;
        }

        int telling(Model model) {
            return passTelling(model);
        }

        final int passTelling(Model model) {
            model.leave(1);
            return height;
        }
    }

    static class Steep extends Pass {
        @Override
        int takes() {
            return super.takes() + 1;
        }

        @Override
        int telling(Model model) {
            model.leave(2);
            return super.telling(model) + 100;
        }
    }

    static class Tunnel extends Steep {
        @Override
        public int marked(Model model) {
            model.leave(5);
            return 80;
        }

        @Override
        int takes() {
            return (length + 1) / 2;
        }

        @Override
        boolean isOpen(int snow) {
            return true;
        }

        @Override
        int telling(Model model) {
            model.leave(3);
            int steep = super.telling(model);
            return steep + passTelling(model);
        }
    }

    private static final List<Class<? extends Pass>> KINDS = List.of(Pass.class, Steep.class, Tunnel.class);

    private final Object[] rows = new Object[4];
    private final List<Pass> passes = new ArrayList<>();
    private final int[] snow = new int[8];
    private final int[] gives = new int[3];
    private final List<int[]> readings = new ArrayList<>();
    private int trace;
    private int fault;

    void leave(int body) {
        trace = trace * 31 + body;
    }

    private boolean noLand() {
        return passes.isEmpty();
    }

    private static boolean out(int v, int most) {
        return v < 0 || v > most;
    }

    // ---- faults, by what the machine throws

    private interface Deed {
        long does();
    }

    private long faulty(boolean asLong, Deed deed) {
        fault = 0;
        try {
            long answer = deed.does();
            return asLong && answer == Long.MAX_VALUE ? CheeseValleys.LOST : answer;
        } catch (NullPointerException e) {
            fault = 1;
        } catch (ClassCastException | ArrayStoreException e) {
            fault = 2;
        } catch (IndexOutOfBoundsException e) {
            fault = 3;
        } catch (NegativeArraySizeException e) {
            fault = 4;
        }
        return asLong ? CheeseValleys.LOST : -10 - fault;
    }

    private static int[] cells(Object row, int lane, int i, int n) {
        int[] taken;
        if (lane == 0) {
            byte[] bytes = (byte[]) row;
            int length = bytes.length;
            byte[] some = new byte[n];
            System.arraycopy(bytes, i, some, 0, n);
            taken = new int[n];
            for (int k = 0; k < n; k++) {
                taken[k] = some[k];
            }
            return length < n ? null : taken;
        }
        if (lane == 1) {
            short[] shorts = (short[]) row;
            int length = shorts.length;
            short[] some = new short[n];
            System.arraycopy(shorts, i, some, 0, n);
            taken = new int[n];
            for (int k = 0; k < n; k++) {
                taken[k] = some[k];
            }
            return length < n ? null : taken;
        }
        int[] ints = (int[]) row;
        int length = ints.length;
        taken = new int[n];
        System.arraycopy(ints, i, taken, 0, n);
        return length < n ? null : taken;
    }

    // ---- 1

    long land(int sheet, int lane, int i, int n) {
        return faulty(false, () -> {
            if (out(sheet, 3)) {
                return UNKNOWN;
            }
            if (out(lane, 2)) {
                return OUTSIDE;
            }
            // No row is as long as that, and the machine should not make one.
            int[] codes = cells(rows[sheet], lane, i, Math.min(n, 1000));
            StringBuilder text = new StringBuilder();
            for (int code : codes) {
                text.append(code < 0 || code > 126 ? '?' : (char) code);
            }
            return landBy(text.toString());
        });
    }

    private int landBy(String text) {
        for (int n = 1; n <= text.length(); n++) {
            Matcher matcher = TEXT.matcher(text.substring(0, n));
            if (!matcher.matches() && !matcher.hitEnd()) {
                return -100 - (n - 1);
            }
        }
        if (!TEXT.matcher(text).matches()) {
            return -100 - text.length();
        }
        String[] parts = text.split(",");
        String[] head = parts[0].split(";");
        for (int day = 0; day < 8; day++) {
            snow[day] = head[0].charAt(1 + day) - '0';
        }
        for (int valley = 0; valley < 3; valley++) {
            gives[valley] = Integer.parseInt(head[1 + valley]);
        }
        passes.clear();
        for (int p = 1; p < parts.length; p++) {
            Pass pass = ofKind("pst".indexOf(parts[p].charAt(0)));
            pass.number = p - 1;
            pass.first = parts[p].charAt(1) - '0';
            pass.second = parts[p].charAt(2) - '0';
            pass.length = parts[p].charAt(3) - '0';
            pass.height = parts[p].charAt(4) - '0';
            passes.add(pass);
        }
        readings.clear();
        return passes.size();
    }

    private static Pass ofKind(int kind) {
        return kind == 0 ? new Pass() : kind == 1 ? new Steep() : new Tunnel();
    }

    long ofPass(int p, int what) {
        if (out(p, passes.size() - 1)) {
            return UNKNOWN;
        }
        if (out(what, 5)) {
            return OUTSIDE;
        }
        Pass a = passes.get(p);
        return new int[] {KINDS.indexOf(a.getClass()), a.first, a.second, a.length, a.height, a.takes()}[what];
    }

    long snow(int day, int v) {
        if (out(day, 7) || out(v, 9)) {
            return OUTSIDE;
        }
        if (noLand()) {
            return STATE;
        }
        int was = snow[day];
        snow[day] = v;
        return was;
    }

    long give(int valley, int set) {
        if (out(valley, 2)) {
            return UNKNOWN;
        }
        if (out(set, 255)) {
            return OUTSIDE;
        }
        if (noLand()) {
            return STATE;
        }
        int was = gives[valley];
        gives[valley] = set;
        return was;
    }

    long open(int day) {
        if (out(day, 7)) {
            return OUTSIDE;
        }
        if (noLand()) {
            return STATE;
        }
        int set = 0;
        for (Pass pass : passes) {
            set += pass.isOpen(snow[day]) ? 1 << pass.number : 0;
        }
        return set;
    }

    // ---- 2

    /** Day, valley, stage, days waited; null where a step can't be. */
    private int[] step(int[] at, int step, int closed) {
        int day = at[0];
        int valley = at[1];
        int stage = at[2];
        if (stage == 2) {
            return null;
        }
        if (step == 6) {
            return day == 7 ? null : new int[] {day + 1, valley, stage, at[3] + 1};
        }
        if (step == 7) {
            return valley == 1 && stage == 0 && (gives[1] >> day) % 2 == 1 ? new int[] {day, 1, 1, at[3]} : null;
        }
        if (step == 8) {
            return valley == 2 && stage == 1 && (gives[2] >> day) % 2 == 1 ? new int[] {day, 2, 2, at[3]} : null;
        }
        Pass pass = passes.get(step);
        if (step == closed || pass.first != valley && pass.second != valley || !pass.isOpen(snow[day])) {
            return null;
        }
        int comes = day + pass.takes();
        return comes > 7 ? null : new int[] {comes, pass.first + pass.second - valley, stage, at[3]};
    }

    /** All that a wheel of a day can come to: by day done (or NONE), fewest waited. */
    private int[] outcomes(int milk, int closed) {
        int[] best = {NONE, NONE};
        if ((gives[0] >> milk) % 2 == 0) {
            return best;
        }
        boolean[] seen = new boolean[8 * 3 * 3 * 8];
        List<int[]> open = new ArrayList<>();
        open.add(new int[] {milk, 0, 0, 0});
        while (!open.isEmpty()) {
            int[] at = open.remove(open.size() - 1);
            int key = ((at[0] * 3 + at[1]) * 3 + at[2]) * 8 + at[3];
            if (seen[key]) {
                continue;
            }
            seen[key] = true;
            if (at[2] == 2) {
                best[0] = best[0] == NONE ? at[0] : Math.min(best[0], at[0]);
                best[1] = best[1] == NONE ? at[3] : Math.min(best[1], at[3]);
            }
            for (int step = 0; step < 9; step++) {
                int[] next = step >= passes.size() && step < 6 ? null : step(at, step, closed);
                if (next != null) {
                    open.add(next);
                }
            }
        }
        return best;
    }

    private boolean can(int day, int fair, int closed) {
        int done = outcomes(day, closed)[0];
        return done != NONE && done <= fair;
    }

    private boolean canBy(int day, int fair, int rennet, int salt) {
        int wasRennet = gives[1];
        int wasSalt = gives[2];
        gives[1] = rennet;
        gives[2] = salt;
        boolean can = can(day, fair, -1);
        gives[1] = wasRennet;
        gives[2] = wasSalt;
        return can;
    }

    long soonest(int day) {
        return out(day, 7) ? OUTSIDE : noLand() ? STATE : outcomes(day, -1)[0];
    }

    long holes(int day) {
        return out(day, 7) ? OUTSIDE : noLand() ? STATE : outcomes(day, -1)[1];
    }

    long way(int day, int sheet, int lane, int i, int n, int what) {
        return faulty(false, () -> {
            if (out(day, 7)) {
                return OUTSIDE;
            }
            if (out(sheet, 3)) {
                return UNKNOWN;
            }
            if (out(lane, 2) || out(n, 20) || out(what, 4)) {
                return OUTSIDE;
            }
            int[] steps = cells(rows[sheet], lane, i, n);
            if (noLand()) {
                return STATE;
            }
            for (int step : steps) {
                if (out(step, 8)) {
                    return OUTSIDE;
                }
                if (step < 6 && step >= passes.size()) {
                    return UNKNOWN;
                }
            }
            return wayBy(day, steps, what);
        });
    }

    private int wayBy(int day, int[] steps, int what) {
        int[] at = {day, 0, 0, 0};
        for (int k = 0; k < steps.length; k++) {
            at = (gives[0] >> day) % 2 == 0 ? null : step(at, steps[k], -1);
            if (at == null) {
                return what == 1 ? k : -100 - k;
            }
        }
        return new int[] {at[0], NONE, at[3], at[1], at[2]}[what];
    }

    // ---- 3

    long last(int fair) {
        if (out(fair, 7)) {
            return OUTSIDE;
        }
        if (noLand()) {
            return STATE;
        }
        int last = NONE;
        for (int day = 0; day < 8; day++) {
            last = can(day, fair, -1) ? day : last;
        }
        return last;
    }

    long safe(int fair) {
        if (out(fair, 7)) {
            return OUTSIDE;
        }
        if (noLand()) {
            return STATE;
        }
        int last = NONE;
        for (int day = 0; day < 8; day++) {
            boolean safe = true;
            for (int rennet = 0; rennet < 256; rennet++) {
                for (int salt = 0; salt < 256; salt++) {
                    if (safe && mayKeepTo(rennet, gives[1]) && mayKeepTo(salt, gives[2])) {
                        safe = canBy(day, fair, rennet, salt);
                    }
                }
            }
            last = safe ? day : last;
        }
        return last;
    }

    private static boolean mayKeepTo(int set, int gives) {
        return (set | gives) == gives && Integer.bitCount(gives ^ set) <= 1;
    }

    long hangs(int day, int fair) {
        if (out(day, 7) || out(fair, 7)) {
            return OUTSIDE;
        }
        if (noLand()) {
            return STATE;
        }
        int set = 0;
        for (int p = 0; p < passes.size(); p++) {
            set += can(day, fair, -1) && !can(day, fair, p) ? 1 << p : 0;
        }
        return set;
    }

    long peace(int day, int fair) {
        if (out(day, 7) || out(fair, 7)) {
            return OUTSIDE;
        }
        if (noLand()) {
            return STATE;
        }
        int best = NONE;
        for (int rennet = 0; rennet <= 8; rennet++) {
            for (int salt = 0; salt <= 8; salt++) {
                // Bit 8 is no day: one valley, or both, give no more than before.
                int moreRennet = (gives[1] | 1 << rennet) & 255;
                int moreSalt = (gives[2] | 1 << salt) & 255;
                int more = Integer.bitCount(moreRennet ^ gives[1]) + Integer.bitCount(moreSalt ^ gives[2]);
                if ((best == NONE || more < best) && canBy(day, fair, moreRennet, moreSalt)) {
                    best = more;
                }
            }
        }
        return best;
    }

    // ---- 4

    long reading(int day, int done) {
        if (out(day, 7) || done != NONE && out(done, 7)) {
            return OUTSIDE;
        }
        if (noLand()) {
            return STATE;
        }
        if (readings.size() == 8) {
            return FULL;
        }
        readings.add(new int[] {day, done});
        return readings.size() - 1;
    }

    long back(int k) {
        if (out(k, readings.size())) {
            return OUTSIDE;
        }
        for (int n = 0; n < k; n++) {
            readings.remove(readings.size() - 1);
        }
        return readings.size();
    }

    private boolean readingsHold() {
        for (int[] reading : readings) {
            if (outcomes(reading[0], -1)[0] != reading[1]) {
                return false;
            }
        }
        return true;
    }

    long snows(int day) {
        if (out(day, 7)) {
            return OUTSIDE;
        }
        if (noLand()) {
            return STATE;
        }
        int was = snow[day];
        int set = 0;
        for (int v = 0; v < 10; v++) {
            snow[day] = v;
            set += readingsHold() ? 1 << v : 0;
        }
        snow[day] = was;
        return set;
    }

    long heights(int p) {
        if (out(p, passes.size() - 1)) {
            return UNKNOWN;
        }
        int was = passes.get(p).height;
        int set = 0;
        for (int v = 0; v < 10; v++) {
            passes.get(p).height = v;
            set += readingsHold() ? 1 << v : 0;
        }
        passes.get(p).height = was;
        return set;
    }

    long kinds(int p) {
        if (out(p, passes.size() - 1)) {
            return UNKNOWN;
        }
        Pass was = passes.get(p);
        int set = 0;
        for (int v = 0; v < 3; v++) {
            Pass other = ofKind(v);
            other.number = was.number;
            other.first = was.first;
            other.second = was.second;
            other.length = was.length;
            other.height = was.height;
            passes.set(p, other);
            set += readingsHold() ? 1 << v : 0;
        }
        passes.set(p, was);
        return set;
    }

    long gave(int valley, int what) {
        if (out(valley, 2)) {
            return UNKNOWN;
        }
        if (out(what, 1)) {
            return OUTSIDE;
        }
        if (noLand()) {
            return STATE;
        }
        int was = gives[valley];
        List<Integer> sets = new ArrayList<>();
        for (int set = 0; set < 256; set++) {
            gives[valley] = set;
            if (readingsHold()) {
                sets.add(set);
            }
        }
        gives[valley] = was;
        return what == 0 ? sets.size() : sets.isEmpty() ? NONE : sets.get(0);
    }

    long odds(int valley, int day, int fair, int which) {
        if (valley != 1 && valley != 2 || out(day, 7) || out(fair, 7) || out(which, 1) || noLand()) {
            return CheeseValleys.LOST;
        }
        long upper = 0;
        long lower = 0;
        for (int set = 0; set < 256; set++) {
            if ((set | gives[valley]) == gives[valley]) {
                lower++;
                int rennet = valley == 1 ? set : gives[1];
                int salt = valley == 2 ? set : gives[2];
                upper += canBy(day, fair, rennet, salt) ? 1 : 0;
            }
        }
        long shared = java.math.BigInteger.valueOf(upper).gcd(java.math.BigInteger.valueOf(lower)).longValue();
        return (which == 0 ? upper : lower) / shared;
    }

    // ---- 5

    long sheet(int k, int lane, int n) {
        return faulty(false, () -> {
            if (out(k, 3)) {
                return UNKNOWN;
            }
            if (out(lane, 2) || n > 60) {
                return OUTSIDE;
            }
            rows[k] = lane == 0 ? new byte[n] : lane == 1 ? new short[n] : new int[n];
            return 1;
        });
    }

    long lose(int k) {
        if (out(k, 3)) {
            return UNKNOWN;
        }
        int had = rows[k] == null ? 0 : 1;
        rows[k] = null;
        return had;
    }

    long put(int k, int i, int v) {
        return faulty(false, () -> {
            if (out(k, 3)) {
                return UNKNOWN;
            }
            if (rows[k] instanceof byte[] bytes) {
                bytes[i] = (byte) v;
            } else if (rows[k] instanceof short[] shorts) {
                shorts[i] = (short) v;
            } else {
                ((int[]) rows[k])[i] = v;
            }
            return 1;
        });
    }

    long cell(int k, int i, int lane) {
        return faulty(true, () -> out(k, 3) || out(lane, 2) ? Long.MAX_VALUE : cells(rows[k], lane, i, 1)[0]);
    }

    long copy(int k, int i, int other, int j, int n) {
        return faulty(false, () -> {
            if (out(k, 3) || out(other, 3)) {
                return UNKNOWN;
            }
            System.arraycopy(rows[k], i, rows[other], j, n);
            return n;
        });
    }

    long tell(int p) {
        return out(p, passes.size() - 1) ? UNKNOWN : passes.get(p).telling(this);
    }

    long mark(int p) {
        return out(p, passes.size() - 1) ? UNKNOWN : passes.get(p).marked(this);
    }

    long as(int p, int kind) {
        return faulty(false, () -> {
            if (out(p, passes.size() - 1)) {
                return UNKNOWN;
            }
            if (out(kind, 2)) {
                return OUTSIDE;
            }
            KINDS.get(kind).cast(passes.get(p));
            return 1;
        });
    }

    long trace() {
        return trace;
    }

    long fault() {
        return fault;
    }

    long many(int what) {
        if (out(what, 2)) {
            return OUTSIDE;
        }
        if (noLand()) {
            return 0;
        }
        int all = gives[0] & gives[1] & gives[2];
        return what == 0 ? passes.size() : what == 1 ? Integer.bitCount(all) : readings.size();
    }
}
