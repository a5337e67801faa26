import java.util.ArrayList;
import java.util.List;

/** What an object has been through does not matter: in the same state it answers as a new one does. */
public final class PastTest {
    private static final Due DUE = new Due("PastTest");
    /** So many that all calls together, with those that make the state and ask, are 512 at the most. */
    private static final int MOST_BEFORE = 240;

    private final CheeseValleys x = new CheeseValleys();
    private final List<String> told = new ArrayList<>();
    private int made;

    public static void main(String[] args) {
        List<String> fresh = new PastTest().answers();
        Run[] runs = {new LandsRun().written(), new SheetsRun().written(), new ReadingsRun().written()};
        for (Run run : runs) {
            for (int before = 1; before <= MOST_BEFORE; before++) {
                compare(run, before, fresh);
            }
        }
        DUE.end();
    }

    private static void compare(Run run, int before, List<String> fresh) {
        PastTest old = new PastTest();
        old.goThrough(run, before);
        List<String> answers = new ArrayList<>(old.answers());
        DUE.is("calls above 512", Math.max(old.made, Run.MOST_CALLS), Run.MOST_CALLS);
        if (!answers.equals(fresh)) {
            answers.removeAll(fresh);
            DUE.is("behind " + before + " calls of " + run.name + ", answers unlike a new object's: " + answers, 1, 0);
        }
    }

    private void goThrough(Run run, int calls) {
        for (int call = 0; call < calls; call++) {
            run.makeCall(call, x, DUE);
        }
        made += calls;
    }

    private List<String> answers() {
        settle();
        ask();
        List<String> looked = Look.at(x);
        made += looked.size();
        told.addAll(looked);
        return told;
    }

    private void settle() {
        for (int k = 0; k < 4; k++) {
            make("lose", k);
        }
        make("sheet", 0, 0, Due.MIXED.length());
        for (int i = 0; i < Due.MIXED.length(); i++) {
            make("put", 0, i, Due.MIXED.charAt(i));
        }
        make("land", 0, 0, 0, Due.MIXED.length());
        make("sheet", 3, 1, 3);
        make("reading", 0, 6);
        make("reading", 5, CheeseValleys.NONE);
    }

    private void ask() {
        for (String name : new String[] {"open", "soonest", "holes", "last", "safe", "snows"}) {
            for (int day = 0; day < 8; day++) {
                told.add(name + day + " = " + make(name, day));
            }
        }
        for (int day = 0; day < 4; day++) {
            told.add("hangs" + day + " = " + make("hangs", day, 7));
            told.add("peace" + day + " = " + make("peace", day, 5));
            told.add("odds" + day + " = " + make("odds", 1, day, 7, 0));
            told.add("heights" + day + " = " + make("heights", day));
            told.add("kinds" + day + " = " + make("kinds", day));
            told.add("way" + day + " = " + make("way", day, 3, 1, 0, 3, 1));
        }
    }

    private long make(String name, int... args) {
        made++;
        return new Call(name, args).on(x);
    }
}
