import java.util.ArrayList;
import java.util.List;
import java.util.function.IntSupplier;

/** What a book answers, call by call: some 120 calls, so that twice they have room among a book's 512. */
final class Answers {
    private static final int[] THINGS = {0, 1, 2, 3, 4, 5, 6, 39};
    private static final int[] TASKS = {0, 1, 2, 15};
    private static final int[] ORDERS = {0, 1, 7};
    private static final int[] KINDS = {0, 1, 2, 3, 11};

    private final HangarBook x;
    private final List<String> seen = new ArrayList<>();

    private Answers(HangarBook x) {
        this.x = x;
    }

    /** Answers that leave the book as it is. */
    static List<String> asked(HangarBook x) {
        Answers answers = new Answers(x);
        answers.askAll();
        return answers.seen;
    }

    /** The same, and then what the book lets happen next, which tells the rest of what it holds. */
    static List<String> askedAndTried(HangarBook x) {
        Answers answers = new Answers(x);
        answers.askAll();
        answers.tryThings();
        answers.tryEntries();
        return answers.seen;
    }

    private void askAll() {
        askCounts();
        for (int t : THINGS) {
            see("where " + t + " early", x.where(t, 260, 0));
            see("where " + t, x.where(t, Books.LAST_POINT, 0));
            see("at " + t, x.at(t, 1, 260));
            see("minutes " + t, x.counter(t, 0, Books.LAST_DAY));
            see("cycles " + t, x.counter(t, 1, 1));
            see("days " + t, x.counter(t, 2, 3));
            see("task 0 of " + t, x.asked(t, 0, 3));
            see("task 1 of " + t, x.asked(t, 1, 3));
        }
        for (int unit = 0; unit < 3; unit++) {
            see("due 0, unit " + unit, x.due(0, 0, unit, 2));
            see("due 2, unit " + unit, x.due(2, 1, unit, 2));
            see("due 4, unit " + unit, x.due(4, 15, unit, 2));
        }
        for (int machine = 0; machine < 2; machine++) {
            see("grounded " + machine, x.grounded(machine, 2));
            see("open " + machine, x.open(machine, Books.LAST_DAY, 0));
            see("forecast " + machine, x.forecast(machine, 2, 10, 1, 0));
        }
    }

    private void askCounts() {
        for (int what = 0; what < 3; what++) {
            see("count " + what, x.count(what));
        }
    }

    /** Things 30 .. 34, old ones, of kinds whose places and lives come to light by them. */
    private void tryThings() {
        for (int i = 0; i < KINDS.length; i++) {
            see("thing " + (30 + i), x.thing(30 + i, KINDS[i], 1_000_000, 1_000_000, 0) ? 1 : 0);
            see("grounded " + (30 + i), x.grounded(30 + i, 0));
        }
        for (int p = 0; p < 4; p++) {
            int place = p;
            attempt("put 31 in " + p, () -> x.put(31, 30, place, 2_000_000 + place));
        }
        attempt("put 32", () -> x.put(32, 31, 1, 2_000_010));
        attempt("take 32", () -> x.take(32, 2_000_011));
    }

    private void tryEntries() {
        for (int order : ORDERS) {
            attempt("rebuild by " + order, () -> x.rebuild(30, order, Books.LAST_POINT));
        }
        for (int task : TASKS) {
            attempt("done " + task, () -> x.done(30, task, Books.LAST_POINT));
            attempt("concede " + task, () -> x.concede(30, task, Books.LAST_POINT, 1, 0));
            see("due " + task, x.due(30, task, 0, Books.LAST_DAY));
        }
        attempt("flight 30", () -> x.flight(30, Books.LAST_POINT, 1, 1));
        attempt("strike 0", () -> {
            x.strike(0);
            return 0;
        });
        askCounts();
    }

    private void see(String call, int answer) {
        seen.add(call + ": " + answer);
    }

    private void attempt(String call, IntSupplier run) {
        try {
            see(call, run.getAsInt());
        } catch (RuntimeException e) {
            seen.add(call + ": " + e.getClass().getSimpleName());
        }
    }
}
