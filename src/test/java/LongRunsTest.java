/** Runs of 512 calls on one object, as many as the document speaks of; the answers are worked out by hand. */
public final class LongRunsTest {
    private static final Due DUE = new Due("LongRunsTest");

    public static void main(String[] args) {
        Run[] runs = {new LandsRun().written(), new SheetsRun().written(), new ReadingsRun().written()};
        for (Run run : runs) {
            DUE.is("calls of " + run.name, run.size(), Run.MOST_CALLS);
            alone(run);
        }
        together(runs);
        DUE.end();
    }

    private static void alone(Run run) {
        CheeseValleys x = new CheeseValleys();
        for (int call = 0; call < run.size(); call++) {
            run.makeCall(call, x, DUE);
        }
    }

    /** Each on an object of its own, call by call in turn: objects do not share what they hold. */
    private static void together(Run... runs) {
        CheeseValleys[] objects = new CheeseValleys[runs.length];
        for (int k = 0; k < runs.length; k++) {
            objects[k] = new CheeseValleys();
        }
        for (int call = 0; call < Run.MOST_CALLS; call++) {
            for (int k = 0; k < runs.length; k++) {
                if (call < runs[k].size()) {
                    runs[k].makeCall(call, objects[k], DUE);
                }
            }
        }
    }
}
