import java.util.ArrayList;
import java.util.List;

/** All that calls can tell of an object, call by call. Readings are taken back: it uses the object up. */
final class Look {
    private final CheeseValleys x;
    private final List<String> told = new ArrayList<>();

    private Look(CheeseValleys x) {
        this.x = x;
    }

    static List<String> at(CheeseValleys x) {
        Look look = new Look(x);
        look.ask("trace");
        look.passes();
        look.days();
        look.sheets();
        look.readings();
        return look.told;
    }

    private long ask(String name, int... args) {
        Call call = new Call(name, args);
        long answer = call.on(x);
        told.add(call + " = " + answer);
        return answer;
    }

    private void passes() {
        long count = ask("many", 0);
        for (int p = 0; p < count; p++) {
            for (int what = 0; what < 5; what++) {
                ask("ofPass", p, what);
            }
        }
    }

    /** What was is put back at once: the answer is the only way to see it. */
    private void days() {
        for (int day = 0; day < 8; day++) {
            long snow = ask("snow", day, 0);
            ask("snow", day, (int) snow);
        }
        for (int valley = 0; valley < 3; valley++) {
            long set = ask("give", valley, 0);
            ask("give", valley, (int) set);
        }
    }

    private void sheets() {
        for (int k = 0; k < 4; k++) {
            for (int lane = 0; lane < 3; lane++) {
                long cell = ask("cell", k, 0, lane);
                ask("fault");
                for (int i = 1; cell != CheeseValleys.LOST && i <= 60; i++) {
                    cell = ask("cell", k, i, lane);
                }
            }
        }
    }

    private void readings() {
        long count = ask("many", 2);
        for (long k = count; k >= 0; k--) {
            ask("gave", 0, 0);
            ask("gave", 1, 0);
            ask("gave", 1, 1);
            ask("gave", 2, 1);
            ask("snows", 0);
            ask("back", 1);
        }
    }
}
