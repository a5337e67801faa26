import java.util.ArrayList;
import java.util.List;

/** A run of calls on one object with the answers that are due, written down ahead of being made. */
final class Run {
    /** As many calls on one object as the document speaks of. */
    static final int MOST_CALLS = 512;

    final String name;
    private final List<Call> calls = new ArrayList<>();
    private final List<Long> answers = new ArrayList<>();
    private int trace;

    Run(String name) {
        this.name = name;
    }

    int size() {
        return calls.size();
    }

    void due(long want, String call, int... args) {
        calls.add(new Call(call, args));
        answers.add(want);
    }

    /** A call by a number alone: one answer for each number from 0 on. */
    void each(String call, long... wants) {
        for (int number = 0; number < wants.length; number++) {
            due(wants[number], call, number);
        }
    }

    /** A call that comes to a fault, and the fault. */
    void fault(int number, String call, int... args) {
        due(-10 - number, call, args);
        due(number, "fault");
    }

    /** A refusal of a call that names faults. */
    void refused(int refusal, String call, int... args) {
        due(refusal, call, args);
        due(0, "fault");
    }

    void text(int k, int from, String text) {
        for (int i = 0; i < text.length(); i++) {
            due(1, "put", k, from + i, text.charAt(i));
        }
    }

    /** Bodies that began since the trace was looked at. */
    void traced(int... bodies) {
        for (int body : bodies) {
            trace = 31 * trace + body;
        }
        due(trace, "trace");
    }

    void makeCall(int number, CheeseValleys x, Due due) {
        Call call = calls.get(number);
        due.is(name + ", call " + (number + 1) + ", " + call, call.on(x), answers.get(number));
    }
}
