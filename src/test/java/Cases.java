import java.io.IOException;
import java.nio.file.Path;
import java.util.ArrayList;
import java.util.List;
import java.util.Set;

/** Cases at the bounds, each under the words of the document that ask for it. */
final class Cases {
    /** Stands in a call's arguments where a number is tried out. */
    static final int HERE = 987654321;
    private static final int MOST_CALLS = 512;
    private static final Set<String> NAME_FAULTS = Set.of("land", "way", "sheet", "put", "cell", "copy", "as");
    private static final int SIZE = 4;

    private final Document document;
    private final List<Call> made = new ArrayList<>();
    private CheeseValleys x = new CheeseValleys();
    private String part;
    private String words;
    private int asked;
    private int wrong;

    Cases() throws IOException {
        document = new Document(Path.of("../shared/DOC.md"));
    }

    // ---- the words that are spoken of

    void promise(int number, String quoted) {
        speakOf("Promise " + number, quoted);
    }

    /** Part 0 is what stands ahead of part 1. */
    void terms(int number, String quoted) {
        speakOf(number == 0 ? "Terms" : "Terms " + number, quoted);
    }

    void speakOf(String newPart, String quoted) {
        part = newPart;
        words = quoted;
        asked++;
        String problem = document.speakOf(part, words);
        if (problem != null) {
            tell(problem);
        }
        anew();
    }

    // ---- making an object ready

    void anew() {
        made.clear();
        x = new CheeseValleys();
    }

    void does(String name, int... args) {
        Call call = new Call(name, args);
        made.add(call);
        call.on(x);
    }

    void row(int k, int lane, int... cells) {
        does("sheet", k, lane, cells.length);
        for (int i = 0; i < cells.length; i++) {
            does("put", k, i, cells[i]);
        }
    }

    void text(String text) {
        row(0, 0, text.chars().toArray());
    }

    /** A new object in a land; its sheet is given back, that looks stay short. */
    void inLand(String text) {
        anew();
        text(text);
        does("land", 0, 0, 0, text.length());
        does("lose", 0);
    }

    // ---- cases

    void due(long want, String name, int... args) {
        Call call = new Call(name, args);
        made.add(call);
        compare(call.toString(), call.on(x), want);
    }

    /** A call that changes nothing: the object as it stands is none the worse for it. */
    void refused(long want, String name, int... args) {
        boolean isFault = want <= -11 && want >= -14;
        refusedWith(want, isFault ? (int) (-10 - want) : 0, new Call(name, args));
    }

    /** The same of a call that answers LOST; fault 0: it is refused. */
    void lost(int fault, String name, int... args) {
        refusedWith(CheeseValleys.LOST, fault, new Call(name, args));
    }

    private void refusedWith(long want, int fault, Call call) {
        CheeseValleys one = again();
        // Another fault ahead of the call shows whether the call sets fault() or leaves it.
        Call ahead = fault == SIZE ? new Call("copy", 0, -1, 0, 0, 0) : new Call("sheet", 0, 0, -1);
        ahead.on(one);
        int faultAhead = one.fault();
        compare(call.toString(), call.on(one), want);
        compare("fault() behind " + call, one.fault(), NAME_FAULTS.contains(call.name) ? fault : faultAhead);
        List<String> after = Look.at(one);
        List<String> due = Look.at(again());
        if (!after.equals(due)) {
            List<String> changed = new ArrayList<>(after);
            changed.removeAll(due);
            tell(part + ", \"" + words + "\": " + call + " changes something: " + changed);
        }
        // With the four calls about it: an object is promised no further.
        compare("calls above 512", Math.max(made.size() + 4 + after.size(), MOST_CALLS), MOST_CALLS);
    }

    private CheeseValleys again() {
        CheeseValleys other = new CheeseValleys();
        for (Call call : made) {
            call.on(other);
        }
        return other;
    }

    /** All numbers beyond least .. most are refused in the place where HERE stands. */
    void outside(long want, int least, int most, String name, int... args) {
        for (int number : beyond(least, most)) {
            refused(want, name, with(number, args));
        }
    }

    void lostOutside(int fault, int least, int most, String name, int... args) {
        for (int number : beyond(least, most)) {
            lost(fault, name, with(number, args));
        }
    }

    /** Just beyond, far beyond, and such as would be inside if they were cut to fewer bits. */
    static int[] beyond(int least, int most) {
        return new int[] {
            least - 1, most + 1, least - 2, most + 2, least - 256, most + 256, least - 65536, most + 65536,
            Integer.MIN_VALUE + least, Integer.MIN_VALUE + most, Integer.MIN_VALUE, Integer.MIN_VALUE + 1,
            Integer.MAX_VALUE - 1, Integer.MAX_VALUE,
        };
    }

    private static int[] with(int number, int... args) {
        int[] all = args.clone();
        for (int i = 0; i < all.length; i++) {
            all[i] = all[i] == HERE ? number : all[i];
        }
        return all;
    }

    private void compare(String what, long got, long want) {
        asked++;
        if (got != want) {
            tell(part + ", \"" + words + "\": " + what + " answered " + got + ", due is " + want);
        }
    }

    private void tell(String problem) {
        wrong++;
        System.out.println(problem);
    }

    void end() {
        for (String words : document.unspoken()) {
            tell("no case speaks of " + words);
        }
        System.out.println(asked + " answers and words looked at, " + wrong + " wrong");
        if (wrong != 0) {
            System.exit(1);
        }
    }
}
