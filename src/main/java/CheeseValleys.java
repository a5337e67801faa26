/**
 * One cheese made by three valleys that won't speak: milk from the one, rennet from the next, salt
 * from the third, carried over passes. ../shared/DOC.md says what each call promises.
 */
public final class CheeseValleys {
    public static final int UNKNOWN = -1, OUTSIDE = -2, STATE = -3, FULL = -4, NONE = -9;
    public static final long LOST = Long.MIN_VALUE;

    private static final int NULL = 1, CAST = 2, INDEX = 3, SIZE = 4;
    private static final int BEFORE_FAULTS = -10, BEFORE_PLACES = -100;

    private static final int DAYS = 8, LAST_DAY = 7, ALL_DAYS = 255;
    private static final int VALLEYS = 3, MILK = 0, RENNET = 1, SALT = 2;
    private static final int DIGITS = 10;
    private static final int MOST_PASSES = 6, KINDS = 3, STEEP = 1, TUNNEL = 2, NO_PASS = -1;
    private static final int MOST_READINGS = 8;
    private static final int SHEETS = 4, MOST_CELLS = 60, LANES = 3, BYTES = 0, SHORTS = 1, NOTHING = -1;
    private static final int MOST_STEPS = 20, STEP_WAITS = 6, STEP_RENNET = 7, STEP_SALT = 8;
    private static final int STAGES = 2, WITH_RENNET = 1, DONE = 2;

    private final Sheet[] sheets;
    private final Land valleys;
    private final Wheel wheel;
    private final Readings readings;
    private int traced;
    private int latestFault;

    public CheeseValleys() {
        sheets = new Sheet[SHEETS];
        for (int k = 0; k < SHEETS; k++) {
            sheets[k] = new Sheet();
        }
        valleys = new Land();
        wheel = new Wheel();
        readings = new Readings();
    }

    // ---- 1 the land

    public int land(int sheet, int lane, int i, int n) {
        latestFault = 0;
        if (!isSheet(sheet)) {
            return UNKNOWN;
        }
        if (!isLane(lane)) {
            return OUTSIDE;
        }
        int found = sheets[sheet].faultOf(lane, i, n);
        if (found != 0) {
            return failed(found);
        }
        Text text = new Text(sheets[sheet].cells, i, n);
        int place = text.firstFault();
        if (place != NONE) {
            return BEFORE_PLACES - place;
        }
        valleys.settle(text);
        readings.count = 0;
        return valleys.passCount;
    }

    public int ofPass(int p, int what) {
        if (!isPass(p)) {
            return UNKNOWN;
        }
        Pass pass = valleys.passes[p];
        switch (what) {
            case 0: return pass.kind;
            case 1: return pass.first;
            case 2: return pass.second;
            case 3: return pass.length;
            case 4: return pass.height;
            case 5: return pass.takes();
            default: return OUTSIDE;
        }
    }

    public int snow(int day, int v) {
        if (!isDay(day) || !isBelow(v, DIGITS)) {
            return OUTSIDE;
        }
        if (!valleys.settled) {
            return STATE;
        }
        int was = valleys.snowOn[day];
        valleys.snowOn[day] = v;
        return was;
    }

    public int give(int valley, int set) {
        if (!isValley(valley)) {
            return UNKNOWN;
        }
        if (!isBelow(set, ALL_DAYS + 1)) {
            return OUTSIDE;
        }
        if (!valleys.settled) {
            return STATE;
        }
        int was = valleys.gives[valley];
        valleys.gives[valley] = set;
        return was;
    }

    public int open(int day) {
        if (!isDay(day)) {
            return OUTSIDE;
        }
        if (!valleys.settled) {
            return STATE;
        }
        int set = 0;
        for (int p = 0; p < valleys.passCount; p++) {
            if (valleys.passes[p].isOpenIn(valleys.snowOn[day])) {
                set |= 1 << p;
            }
        }
        return set;
    }

    // ---- 2 wheels

    public int soonest(int day) {
        if (!isDay(day)) {
            return OUTSIDE;
        }
        if (!valleys.settled) {
            return STATE;
        }
        valleys.chart(NO_PASS);
        return valleys.doneOn(day);
    }

    public int holes(int day) {
        if (!isDay(day)) {
            return OUTSIDE;
        }
        if (!valleys.settled) {
            return STATE;
        }
        return valleys.fewestHoles(day);
    }

    public int way(int day, int sheet, int lane, int i, int n, int what) {
        latestFault = 0;
        if (!isDay(day)) {
            return OUTSIDE;
        }
        if (!isSheet(sheet)) {
            return UNKNOWN;
        }
        if (!isLane(lane) || !isBelow(n, MOST_STEPS + 1) || !isBelow(what, 5)) {
            return OUTSIDE;
        }
        int found = sheets[sheet].faultOf(lane, i, n);
        if (found != 0) {
            return failed(found);
        }
        if (!valleys.settled) {
            return STATE;
        }
        int refusal = refusalOfSteps(sheets[sheet].cells, i, n);
        if (refusal != 0) {
            return refusal;
        }
        wheel.begin(day);
        return ofWay(firstWrong(sheets[sheet].cells, i, n), what);
    }

    // ---- 3 fairs

    public int last(int fair) {
        if (!isDay(fair)) {
            return OUTSIDE;
        }
        if (!valleys.settled) {
            return STATE;
        }
        valleys.chart(NO_PASS);
        for (int day = LAST_DAY; day >= 0; day--) {
            if (valleys.isDoneBy(fair, day, valleys.gives[RENNET], valleys.gives[SALT])) {
                return day;
            }
        }
        return NONE;
    }

    public int safe(int fair) {
        if (!isDay(fair)) {
            return OUTSIDE;
        }
        if (!valleys.settled) {
            return STATE;
        }
        valleys.chart(NO_PASS);
        for (int day = LAST_DAY; day >= 0; day--) {
            if (valleys.isSafeBy(fair, day)) {
                return day;
            }
        }
        return NONE;
    }

    public int hangs(int day, int fair) {
        if (!isDay(day) || !isDay(fair)) {
            return OUTSIDE;
        }
        if (!valleys.settled) {
            return STATE;
        }
        if (!canWithout(NO_PASS, day, fair)) {
            return 0;
        }
        int set = 0;
        for (int p = 0; p < valleys.passCount; p++) {
            if (!canWithout(p, day, fair)) {
                set |= 1 << p;
            }
        }
        return set;
    }

    public int peace(int day, int fair) {
        if (!isDay(day) || !isDay(fair)) {
            return OUTSIDE;
        }
        if (!valleys.settled) {
            return STATE;
        }
        valleys.chart(NO_PASS);
        return valleys.daysToPeace(fair, day);
    }

    // ---- 4 what became of wheels

    public int reading(int day, int done) {
        if (!isDay(day) || done != NONE && !isDay(done)) {
            return OUTSIDE;
        }
        if (!valleys.settled) {
            return STATE;
        }
        int number = readings.count;
        if (number >= MOST_READINGS) {
            return FULL;
        }
        readings.milkDay[number] = day;
        readings.doneDay[number] = done;
        readings.count = number + 1;
        return number;
    }

    public int back(int k) {
        if (k < 0 || k > readings.count) {
            return OUTSIDE;
        }
        readings.count -= k;
        return readings.count;
    }

    public int snows(int day) {
        if (!isDay(day)) {
            return OUTSIDE;
        }
        if (!valleys.settled) {
            return STATE;
        }
        int was = valleys.snowOn[day];
        int set = 0;
        for (int v = 0; v < DIGITS; v++) {
            valleys.snowOn[day] = v;
            set |= bitIfReadingsHold(v);
        }
        valleys.snowOn[day] = was;
        return set;
    }

    public int heights(int p) {
        if (!isPass(p)) {
            return UNKNOWN;
        }
        Pass pass = valleys.passes[p];
        int was = pass.height;
        int set = 0;
        for (int v = 0; v < DIGITS; v++) {
            pass.height = v;
            set |= bitIfReadingsHold(v);
        }
        pass.height = was;
        return set;
    }

    public int kinds(int p) {
        if (!isPass(p)) {
            return UNKNOWN;
        }
        Pass pass = valleys.passes[p];
        int was = pass.kind;
        int set = 0;
        for (int v = 0; v < KINDS; v++) {
            pass.kind = v;
            set |= bitIfReadingsHold(v);
        }
        pass.kind = was;
        return set;
    }

    public int gave(int valley, int what) {
        if (!isValley(valley)) {
            return UNKNOWN;
        }
        if (!isBelow(what, 2)) {
            return OUTSIDE;
        }
        if (!valleys.settled) {
            return STATE;
        }
        valleys.chart(NO_PASS);
        int was = valleys.gives[valley];
        int count = 0;
        int least = NONE;
        for (int set = ALL_DAYS; set >= 0; set--) {
            valleys.gives[valley] = set;
            if (readings.holdIn(valleys)) {
                count++;
                least = set;
            }
        }
        valleys.gives[valley] = was;
        return what == 0 ? count : least;
    }

    public long odds(int valley, int day, int fair, int which) {
        boolean holdsBack = valley == RENNET || valley == SALT;
        if (!holdsBack || !isDay(day) || !isDay(fair) || !isBelow(which, 2) || !valleys.settled) {
            return LOST;
        }
        valleys.chart(NO_PASS);
        int upper = valleys.setsDoneBy(fair, day, valley);
        int lower = 1 << Integer.bitCount(valleys.gives[valley]);
        // The lower number is a power of two, so that two is all they can share.
        while (lower > 1 && upper % 2 == 0) {
            upper /= 2;
            lower /= 2;
        }
        return which == 0 ? upper : lower;
    }

    // ---- 5 sheets, parts

    public int sheet(int k, int lane, int n) {
        latestFault = 0;
        if (!isSheet(k)) {
            return UNKNOWN;
        }
        if (!isLane(lane) || n > MOST_CELLS) {
            return OUTSIDE;
        }
        if (n < 0) {
            return failed(SIZE);
        }
        sheets[k].renew(lane, n);
        return 1;
    }

    public int lose(int k) {
        if (!isSheet(k)) {
            return UNKNOWN;
        }
        int had = sheets[k].hasNothing() ? 0 : 1;
        sheets[k].renew(NOTHING, 0);
        return had;
    }

    public int put(int k, int i, int v) {
        latestFault = 0;
        if (!isSheet(k)) {
            return UNKNOWN;
        }
        Sheet sheet = sheets[k];
        // Taken as what it is, so that no CAST comes ahead of NULL and INDEX.
        int found = sheet.faultOf(sheet.lane, i, 1);
        if (found != 0) {
            return failed(found);
        }
        sheet.cells[i] = sheet.cut(v);
        return 1;
    }

    public long cell(int k, int i, int lane) {
        latestFault = 0;
        if (!isSheet(k) || !isLane(lane)) {
            return LOST;
        }
        int found = sheets[k].faultOf(lane, i, 1);
        if (found != 0) {
            latestFault = found;
            return LOST;
        }
        return sheets[k].cells[i];
    }

    public int copy(int k, int i, int other, int j, int n) {
        latestFault = 0;
        if (!isSheet(k) || !isSheet(other)) {
            return UNKNOWN;
        }
        Sheet from = sheets[k];
        Sheet to = sheets[other];
        if (from.hasNothing() || to.hasNothing()) {
            return failed(NULL);
        }
        if (from.lane != to.lane) {
            return failed(CAST);
        }
        if (!from.hasCells(i, n) || !to.hasCells(j, n)) {
            return failed(INDEX);
        }
        System.arraycopy(from.cells, i, to.cells, j, n);
        return n;
    }

    public int tell(int p) {
        if (!isPass(p)) {
            return UNKNOWN;
        }
        Pass pass = valleys.passes[p];
        switch (pass.kind) {
            case STEEP: return steepTelling(pass);
            case TUNNEL: return tunnelTelling(pass);
            default: return passTelling(pass);
        }
    }

    public int mark(int p) {
        if (!isPass(p)) {
            return UNKNOWN;
        }
        if (valleys.passes[p].kind == TUNNEL) {
            leave(5);
            return 80;
        }
        leave(4);
        return p;
    }

    public int as(int p, int kind) {
        latestFault = 0;
        if (!isPass(p)) {
            return UNKNOWN;
        }
        if (!isBelow(kind, KINDS)) {
            return OUTSIDE;
        }
        // Each kind is one of those with a lower number, too.
        return valleys.passes[p].kind < kind ? failed(CAST) : 1;
    }

    public int trace() {
        return traced;
    }

    public int fault() {
        return latestFault;
    }

    public int many(int what) {
        switch (what) {
            case 0: return valleys.passCount;
            case 1: return Integer.bitCount(valleys.gives[MILK] & valleys.gives[RENNET] & valleys.gives[SALT]);
            case 2: return readings.count;
            default: return OUTSIDE;
        }
    }

    // ---- what the calls share

    private static boolean isBelow(int number, int bound) {
        return number >= 0 && number < bound;
    }

    private static boolean isDay(int day) {
        return isBelow(day, DAYS);
    }

    private static boolean isValley(int valley) {
        return isBelow(valley, VALLEYS);
    }

    private static boolean isSheet(int k) {
        return isBelow(k, SHEETS);
    }

    private static boolean isLane(int lane) {
        return isBelow(lane, LANES);
    }

    private boolean isPass(int p) {
        return isBelow(p, valleys.passCount);
    }

    private static boolean hasDay(int set, int day) {
        return (set >> day & 1) != 0;
    }

    private int failed(int found) {
        latestFault = found;
        return BEFORE_FAULTS - found;
    }

    private int refusalOfSteps(int[] cells, int from, int n) {
        for (int k = 0; k < n; k++) {
            int step = cells[from + k];
            if (step < 0 || step > STEP_SALT) {
                return OUTSIDE;
            }
            if (step < STEP_WAITS && !isPass(step)) {
                return UNKNOWN;
            }
        }
        return 0;
    }

    private int firstWrong(int[] cells, int from, int n) {
        boolean begins = hasDay(valleys.gives[MILK], wheel.day);
        for (int k = 0; k < n; k++) {
            if (!begins || !wheel.takesStep(cells[from + k], valleys)) {
                return k;
            }
        }
        return NONE;
    }

    private int ofWay(int wrong, int what) {
        if (what == 1) {
            return wrong;
        }
        if (wrong != NONE) {
            return BEFORE_PLACES - wrong;
        }
        switch (what) {
            case 0: return wheel.day;
            case 2: return wheel.waited;
            case 3: return wheel.valley;
            default: return wheel.stage;
        }
    }

    private boolean canWithout(int closed, int day, int fair) {
        valleys.chart(closed);
        return valleys.isDoneBy(fair, day, valleys.gives[RENNET], valleys.gives[SALT]);
    }

    private int bitIfReadingsHold(int number) {
        valleys.chart(NO_PASS);
        return readings.holdIn(valleys) ? 1 << number : 0;
    }

    private void leave(int body) {
        traced = 31 * traced + body;
    }

    private int passTelling(Pass pass) {
        leave(1);
        return pass.height;
    }

    private int steepTelling(Pass pass) {
        leave(2);
        return passTelling(pass) + 100;
    }

    private int tunnelTelling(Pass pass) {
        leave(3);
        int asSteep = steepTelling(pass);
        return asSteep + passTelling(pass);
    }

    /** A row of numbers of a lane, or nothing; the cells are kept and used again by the next row. */
    private static final class Sheet {
        final int[] cells = new int[MOST_CELLS];
        int lane = NOTHING;
        int length;

        void renew(int newLane, int newLength) {
            lane = newLane;
            length = newLength;
            for (int i = 0; i < MOST_CELLS; i++) {
                cells[i] = 0;
            }
        }

        boolean hasNothing() {
            return lane == NOTHING;
        }

        boolean hasCells(int from, int n) {
            return from >= 0 && n >= 0 && from <= length && n <= length - from;
        }

        /** The first fault of taking n cells as a row of a lane, 0 if there is none. */
        int faultOf(int asLane, int from, int n) {
            if (!hasNothing() && lane != asLane) {
                return CAST;
            }
            if (hasNothing()) {
                return NULL;
            }
            if (n < 0) {
                return SIZE;
            }
            return hasCells(from, n) ? 0 : INDEX;
        }

        int cut(int v) {
            switch (lane) {
                case BYTES: return (byte) v;
                case SHORTS: return (short) v;
                default: return v;
            }
        }
    }

    /** The codes that tell a land. Each place has its own rule, since all parts are of fixed length. */
    private static final class Text {
        static final int GIVES_FROM = 9, PASSES_FROM = 21, END = 57;
        static final int GIVES_LENGTH = 4, PASS_LENGTH = 6;

        final int[] cells;
        final int from;
        final int length;

        Text(int[] cells, int from, int length) {
            this.cells = cells;
            this.from = from;
            this.length = length;
        }

        int codeAt(int place) {
            return cells[from + place];
        }

        int digitAt(int place) {
            return codeAt(place) - '0';
        }

        int numberAt(int place) {
            return digitAt(place) * 100 + digitAt(place + 1) * 10 + digitAt(place + 2);
        }

        int kindAt(int place) {
            switch (codeAt(place)) {
                case 'p': return 0;
                case 's': return STEEP;
                case 't': return TUNNEL;
                default: return NONE;
            }
        }

        /** The first place with which no text goes on, the length if it ends too soon; NONE: it is whole. */
        int firstFault() {
            for (int place = 0; place < length; place++) {
                if (!goesOnAt(place)) {
                    return place;
                }
            }
            boolean isWhole = length > PASSES_FROM && (length - PASSES_FROM) % PASS_LENGTH == 0;
            return isWhole ? NONE : length;
        }

        private boolean goesOnAt(int place) {
            if (place == 0) {
                return codeAt(place) == 'v';
            }
            if (place < GIVES_FROM) {
                return isDigitAt(place, 0, 9);
            }
            if (place < PASSES_FROM) {
                return givesGoOnAt(place, (place - GIVES_FROM) % GIVES_LENGTH);
            }
            return place < END && passGoesOnAt(place, (place - PASSES_FROM) % PASS_LENGTH);
        }

        private boolean givesGoOnAt(int place, int part) {
            switch (part) {
                case 0: return codeAt(place) == ';';
                case 1: return isDigitAt(place, 0, 2);
                case 2: return isDigitAt(place, 0, digitAt(place - 1) == 2 ? 5 : 9);
                default:
                    boolean isHighest = digitAt(place - 2) == 2 && digitAt(place - 1) == 5;
                    return isDigitAt(place, 0, isHighest ? 5 : 9);
            }
        }

        private boolean passGoesOnAt(int place, int part) {
            switch (part) {
                case 0: return codeAt(place) == ',';
                case 1: return kindAt(place) != NONE;
                case 2: return isDigitAt(place, 0, 2);
                case 3: return isDigitAt(place, 0, 2) && codeAt(place) != codeAt(place - 1);
                case 4: return isDigitAt(place, 1, 3);
                default: return isDigitAt(place, 0, 9);
            }
        }

        private boolean isDigitAt(int place, int least, int most) {
            return digitAt(place) >= least && digitAt(place) <= most;
        }
    }

    private static final class Pass {
        int kind;
        int first;
        int second;
        int length;
        int height;

        int takes() {
            switch (kind) {
                case STEEP: return length + 1;
                case TUNNEL: return length / 2 + length % 2;
                default: return length;
            }
        }

        boolean isOpenIn(int snow) {
            return kind == TUNNEL || height > snow;
        }

        int otherEnd(int valley) {
            if (valley == first) {
                return second;
            }
            return valley == second ? first : NONE;
        }
    }

    /** The passes, the snow, the days of giving, and where a wheel can come by them. */
    private static final class Land {
        final Pass[] passes = new Pass[MOST_PASSES];
        final int[] snowOn = new int[DAYS];
        final int[] gives = new int[VALLEYS];
        /** By day and valley: the days on which one that is there can be in each valley, eight bits each. */
        private final int[] reach = new int[DAYS * VALLEYS];
        /** By day, stage and valley: the fewest days that one that is there still waits; NONE. */
        private final int[] fewest = new int[DAYS * STAGES * VALLEYS];
        boolean settled;
        int passCount;

        Land() {
            for (int p = 0; p < MOST_PASSES; p++) {
                passes[p] = new Pass();
            }
        }

        /** Takes all from a text that is whole. */
        void settle(Text text) {
            for (int day = 0; day < DAYS; day++) {
                snowOn[day] = text.digitAt(1 + day);
            }
            for (int valley = 0; valley < VALLEYS; valley++) {
                gives[valley] = text.numberAt(Text.GIVES_FROM + Text.GIVES_LENGTH * valley + 1);
            }
            int told = (text.length - Text.PASSES_FROM) / Text.PASS_LENGTH;
            passCount = Math.min(told, MOST_PASSES);
            for (int p = 0; p < passCount; p++) {
                settlePass(passes[p], text, Text.PASSES_FROM + Text.PASS_LENGTH * p);
            }
            settled = true;
        }

        private static void settlePass(Pass pass, Text text, int place) {
            pass.kind = text.kindAt(place + 1);
            pass.first = text.digitAt(place + 2);
            pass.second = text.digitAt(place + 3);
            pass.length = text.digitAt(place + 4);
            pass.height = text.digitAt(place + 5);
        }

        /** The day on which one comes that leaves a valley over a pass; NONE: it can't. */
        int arrival(Pass pass, int valley, int day) {
            if (pass.otherEnd(valley) == NONE || !pass.isOpenIn(snowOn[day])) {
                return NONE;
            }
            int comes = day + pass.takes();
            return comes <= LAST_DAY ? comes : NONE;
        }

        /** Must be called ahead of all that asks for days of being done: the chart is of one call alone. */
        void chart(int closed) {
            for (int day = LAST_DAY; day >= 0; day--) {
                for (int valley = 0; valley < VALLEYS; valley++) {
                    reach[day * VALLEYS + valley] = reachFrom(valley, day, closed);
                }
            }
        }

        private int reachFrom(int valley, int day, int closed) {
            int all = 1 << DAYS * valley + day;
            if (day < LAST_DAY) {
                all |= reach[(day + 1) * VALLEYS + valley];
            }
            for (int p = 0; p < passCount; p++) {
                int comes = p == closed ? NONE : arrival(passes[p], valley, day);
                if (comes != NONE) {
                    all |= reach[comes * VALLEYS + passes[p].otherEnd(valley)];
                }
            }
            return all;
        }

        private int firstDayIn(int valley, int fromValley, int fromDay, int set) {
            int days = reach[fromDay * VALLEYS + fromValley] >> DAYS * valley & set;
            for (int day = 0; day < DAYS; day++) {
                if (hasDay(days, day)) {
                    return day;
                }
            }
            return NONE;
        }

        int doneOn(int day) {
            return doneWith(day, gives[RENNET], gives[SALT]);
        }

        private int doneWith(int day, int rennetDays, int saltDays) {
            if (!hasDay(gives[MILK], day)) {
                return NONE;
            }
            // The first rennet is as good as any: with it a wheel can still wait where it is.
            int rennetDay = firstDayIn(RENNET, MILK, day, rennetDays);
            return rennetDay == NONE ? NONE : firstDayIn(SALT, RENNET, rennetDay, saltDays);
        }

        boolean isDoneBy(int fair, int day, int rennetDays, int saltDays) {
            int done = doneWith(day, rennetDays, saltDays);
            return done != NONE && done <= fair;
        }

        boolean isSafeBy(int fair, int day) {
            // A day held back on which a valley does not give stands for none held back.
            for (int held = 0; held < DAYS * DAYS; held++) {
                int rennetDays = gives[RENNET] & ~(1 << held / DAYS);
                int saltDays = gives[SALT] & ~(1 << held % DAYS);
                if (!isDoneBy(fair, day, rennetDays, saltDays)) {
                    return false;
                }
            }
            return true;
        }

        int daysToPeace(int fair, int day) {
            // A wheel needs one day of each valley, so that one more of each stands for all.
            if (isDoneBy(fair, day, gives[RENNET], gives[SALT])) {
                return 0;
            }
            if (isDoneBy(fair, day, ALL_DAYS, gives[SALT]) || isDoneBy(fair, day, gives[RENNET], ALL_DAYS)) {
                return 1;
            }
            return isDoneBy(fair, day, ALL_DAYS, ALL_DAYS) ? 2 : NONE;
        }

        /** Of the sets of days that a valley may keep to: by how many a wheel can be done by a fair. */
        int setsDoneBy(int fair, int day, int valley) {
            int count = 0;
            for (int set = 0; set <= ALL_DAYS; set++) {
                boolean isKept = (set & ~gives[valley]) == 0;
                int rennetDays = valley == RENNET ? set : gives[RENNET];
                int saltDays = valley == SALT ? set : gives[SALT];
                if (isKept && isDoneBy(fair, day, rennetDays, saltDays)) {
                    count++;
                }
            }
            return count;
        }

        int fewestHoles(int milkDay) {
            if (!hasDay(gives[MILK], milkDay)) {
                return NONE;
            }
            for (int day = LAST_DAY; day >= milkDay; day--) {
                // With rennet first: what has none yet may get it on the same day.
                for (int stage = WITH_RENNET; stage >= 0; stage--) {
                    for (int valley = 0; valley < VALLEYS; valley++) {
                        fewest[placeOf(day, stage, valley)] = holesFrom(day, stage, valley);
                    }
                }
            }
            return fewest[placeOf(milkDay, 0, MILK)];
        }

        private int holesFrom(int day, int stage, int valley) {
            if (stage == WITH_RENNET && valley == SALT && hasDay(gives[SALT], day)) {
                return 0;
            }
            int best = NONE;
            if (day < LAST_DAY && fewest[placeOf(day + 1, stage, valley)] != NONE) {
                best = fewest[placeOf(day + 1, stage, valley)] + 1;
            }
            if (stage < WITH_RENNET && valley == RENNET && hasDay(gives[RENNET], day)) {
                best = fewer(best, fewest[placeOf(day, WITH_RENNET, valley)]);
            }
            for (int p = 0; p < passCount; p++) {
                int comes = arrival(passes[p], valley, day);
                if (comes != NONE) {
                    best = fewer(best, fewest[placeOf(comes, stage, passes[p].otherEnd(valley))]);
                }
            }
            return best;
        }

        private static int placeOf(int day, int stage, int valley) {
            return (day * STAGES + stage) * VALLEYS + valley;
        }

        private static int fewer(int one, int another) {
            if (one == NONE || another == NONE) {
                return Math.max(one, another);
            }
            return Math.min(one, another);
        }
    }

    /** A wheel on a way that is told. */
    private static final class Wheel {
        int day;
        int valley;
        int stage;
        int waited;

        void begin(int milkDay) {
            day = milkDay;
            valley = MILK;
            stage = 0;
            waited = 0;
        }

        /** Whether the step can be; if so, it is taken. */
        boolean takesStep(int step, Land land) {
            if (stage == DONE) {
                return false;
            }
            switch (step) {
                case STEP_WAITS: return waitsADay();
                case STEP_RENNET: return gets(RENNET, 0, land);
                case STEP_SALT: return gets(SALT, WITH_RENNET, land);
                default: return crosses(step, land);
            }
        }

        private boolean waitsADay() {
            if (day >= LAST_DAY) {
                return false;
            }
            day++;
            waited++;
            return true;
        }

        private boolean gets(int where, int stageBefore, Land land) {
            if (valley != where || stage != stageBefore || !hasDay(land.gives[where], day)) {
                return false;
            }
            stage++;
            return true;
        }

        private boolean crosses(int step, Land land) {
            if (!isBelow(step, land.passCount)) {
                return false;
            }
            Pass pass = land.passes[step];
            int comes = land.arrival(pass, valley, day);
            if (comes == NONE) {
                return false;
            }
            day = comes;
            valley = pass.otherEnd(valley);
            return true;
        }
    }

    /** What became of wheels: the day of milk, and the day on which each was done at the soonest. */
    private static final class Readings {
        final int[] milkDay = new int[MOST_READINGS];
        final int[] doneDay = new int[MOST_READINGS];
        int count;

        /** Whether all of them are so in a land that is charted. */
        boolean holdIn(Land land) {
            for (int k = 0; k < count; k++) {
                if (land.doneOn(milkDay[k]) != doneDay[k]) {
                    return false;
                }
            }
            return true;
        }
    }
}
