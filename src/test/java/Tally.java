import java.util.HashMap;
import java.util.HashSet;
import java.util.Map;
import java.util.Set;

/** What came about in a run, so that runs which miss what they are for don't go unseen. */
final class Tally {
    private final Map<String, Integer> counts = new HashMap<>();
    private final Set<Character> lost = new HashSet<>();

    void count(String call, long answer) {
        add("calls");
        String name = call.substring(0, call.indexOf('('));
        switch (name) {
            case "land":
                add(answer > 0 ? "lands" : "lands refused");
                break;
            case "reading":
                add(answer >= 0 ? "readings" : "readings refused");
                break;
            case "lose":
            case "sheet":
                countOfSheets(name, call.charAt(name.length() + 1), answer);
                break;
            default:
                break;
        }
    }

    private void countOfSheets(String name, char k, long answer) {
        if (answer < 0) {
            add("sheets refused");
        } else if (name.equals("sheet") && lost.remove(k)) {
            add("sheets made anew");
        } else if (name.equals("lose") && answer == 1) {
            lost.add(k);
        }
    }

    private void add(String what) {
        counts.merge(what, 1, Integer::sum);
    }

    private int of(String what) {
        return counts.getOrDefault(what, 0);
    }

    boolean isRich() {
        boolean hasRefusals = of("lands refused") > 0 && of("readings refused") + of("sheets refused") > 1;
        boolean isMixed = of("lands") > 2 && of("readings") > 7 && of("sheets made anew") > 1;
        return of("calls") == Run.MOST_CALLS && hasRefusals && isMixed;
    }
}
