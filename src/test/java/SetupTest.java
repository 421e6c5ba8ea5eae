/** Promises 1 to 6: a new object, place, thing, task, order and life. */
public final class SetupTest {
    private static final int NONE = HangarBook.NONE;
    private static final int LOW = Wrong.LOW;
    private static final int HIGH = Wrong.HIGH;

    private static final Check check = new Check();

    public static void main(String[] args) {
        newObject();
        place();
        placeDecidesWhatIsAMachine();
        thing();
        task();
        taskAgain();
        order();
        orderAgain();
        life();
        check.end();
    }

    private static void newObject() {
        check.promise("promise 1");
        HangarBook x = new HangarBook();
        check.same("NONE", HangarBook.NONE, -1);
        for (int what = 0; what < 3; what++) {
            check.same("count", x.count(what), 0);
        }
        check.same("where", x.where(0, 0, 3), NONE);
        check.same("at", x.at(0, 0, 0), NONE);
        check.same("counter", x.counter(0, 0, 0), 0);
        check.same("due", x.due(0, 0, 0, 0), NONE);
        check.same("asked", x.asked(0, 0, 0), 0);
        check.same("open", x.open(0, 0, 0), NONE);
        check.same("grounded", x.grounded(0, 0), NONE);
        check.same("forecast", x.forecast(0, 0, 0, 0, 0), NONE);
        check.badArgument("strike", () -> x.strike(0));
        check.badArgument("flight", () -> x.flight(0, 0, 0, 0));
        x.thing(0, 0, 0, 0, 0);
        check.same("no place has a kind, none is empty", x.grounded(0, 0), 0);
        HangarBook other = new HangarBook();
        check.same("objects share nothing", other.count(2), 0);
    }

    private static void place() {
        check.promise("promise 2");
        HangarBook x = new HangarBook();
        for (int bad : Wrong.KINDS) {
            check.no("place(kind " + bad + ")", x.place(bad, 0, 1));
        }
        for (int bad : Wrong.PLACES) {
            check.no("place(p " + bad + ")", x.place(0, bad, 1));
        }
        for (int bad : new int[] {-2, 12, LOW, HIGH}) {
            check.no("place(child " + bad + ")", x.place(0, 0, bad));
        }
        check.yes("place(0, 0, 11)", x.place(0, 0, 11));
        check.yes("place(11, 3, 0)", x.place(11, 3, 0));
        check.yes("place(11, 3, NONE)", x.place(11, 3, NONE));
        check.yes("place(0, 1, 5)", x.place(0, 1, 5));
        check.yes("place(0, 1, 6) changes it", x.place(0, 1, 6));
        x.thing(0, 0, 0, 0, 0);
        x.thing(1, 11, 0, 0, 0);
        x.thing(2, 5, 0, 0, 0);
        x.thing(3, 6, 0, 0, 0);
        check.no("place, with things", x.place(2, 0, 3));
        check.no("place NONE, with things", x.place(0, 0, NONE));
        check.fine("what fits", () -> x.put(1, 0, 0, 0));
        check.badState("what no longer fits", () -> x.put(2, 0, 1, 1));
        check.fine("what fits since", () -> x.put(3, 0, 1, 2));
        check.badState("a place that was emptied for ever", () -> x.put(0, 1, 3, 3));
    }

    private static void placeDecidesWhatIsAMachine() {
        HangarBook x = new HangarBook();
        x.place(4, 2, 7);
        x.place(5, 0, 8);
        x.place(5, 0, NONE);
        x.thing(0, 7, 0, 0, 0);
        x.thing(1, 8, 0, 0, 0);
        x.thing(2, 4, 0, 0, 0);
        check.same("a part's kind, though no thing of 4 holds it", x.grounded(0, 0), NONE);
        check.same("no place's kind any more", x.grounded(1, 0), 0);
        check.same("a machine with an empty place", x.grounded(2, 0), 1);
    }

    private static void thing() {
        check.promise("promise 3");
        HangarBook x = new HangarBook();
        for (int bad : new int[] {NONE, 40, LOW, HIGH}) {
            check.no("thing(t " + bad + ")", x.thing(bad, 0, 0, 0, 0));
        }
        for (int bad : Wrong.KINDS) {
            check.no("thing(kind " + bad + ")", x.thing(0, bad, 0, 0, 0));
        }
        for (int bad : new int[] {-1, 1_000_001, LOW, HIGH}) {
            check.no("thing(minutes " + bad + ")", x.thing(0, 0, bad, 0, 0));
            check.no("thing(cycles " + bad + ")", x.thing(0, 0, 0, bad, 0));
        }
        for (int bad : Wrong.DAYS) {
            check.no("thing(day " + bad + ")", x.thing(0, 0, 0, 0, bad));
        }
        check.same("nothing came of it", x.count(2), 0);
        check.yes("the most of all", x.thing(39, 11, 1_000_000, 999_999, 30_000));
        check.no("there already", x.thing(39, 0, 0, 0, 0));
        check.yes("the least of all", x.thing(0, 0, 0, 0, 0));
        check.same("things", x.count(2), 2);
        check.same("its minutes", x.counter(39, 0, 0), 1_000_000);
        check.same("its cycles", x.counter(39, 1, 0), 999_999);
        check.same("its days", x.counter(39, 2, 30_000), 0);
        x.flight(0, 5, 7, 1);
        x.counter(0, 0, 0);
        check.yes("a thing after entries", x.thing(1, 1, 33, 44, 2));
        check.same("its minutes at once", x.counter(1, 0, 0), 33);
        check.same("its cycles at once", x.counter(1, 1, 0), 44);
    }

    private static void task() {
        check.promise("promise 4");
        HangarBook x = new HangarBook();
        x.thing(0, 0, 0, 0, 0);
        for (int bad : new int[] {NONE, 16, LOW, HIGH}) {
            check.no("task(task " + bad + ")", x.task(bad, 0, 1, 1, 1000));
        }
        for (int bad : Wrong.KINDS) {
            check.no("task(kind " + bad + ")", x.task(0, bad, 1, 1, 1000));
        }
        for (int bad : new int[] {-1, 100_001, LOW, HIGH}) {
            check.no("task(minutes " + bad + ")", x.task(0, 0, bad, 1, 1000));
            check.no("task(cycles " + bad + ")", x.task(0, 0, 1, bad, 1000));
        }
        for (int bad : new int[] {-1, -1000, 501, 999, 1501, 100_000_501, 100_001_000, LOW, HIGH}) {
            check.no("task(more " + bad + ")", x.task(0, 0, 1, 1, bad));
        }
        check.same("nothing came of it", x.due(0, 0, 0, 0), NONE);
        check.yes("the most of all", x.task(15, 11, 100_000, 100_000, 100_000_500));
        check.yes("the least of all", x.task(0, 0, 0, 0, 0));
        check.same("days of the most", x.due(0, 15, 2, 0), 100_000);
        check.same("minutes of the most", x.due(0, 15, 0, 0), 100_000);
        check.same("cycles of the most", x.due(0, 15, 1, 0), 100_000);
        check.same("no limit", x.due(0, 0, 0, 0), NONE);
        check.yes("two intervals", x.task(1, 0, 12, 34, 56_500));
        check.same("minutes", x.due(0, 1, 0, 0), 12);
        check.same("cycles", x.due(0, 1, 1, 0), 34);
        check.same("days", x.due(0, 1, 2, 0), 56);
    }

    private static void taskAgain() {
        HangarBook x = new HangarBook();
        x.thing(0, 0, 0, 0, 0);
        check.yes("a task", x.task(3, 0, 10, 0, 0));
        check.same("its due point", x.due(0, 3, 0, 0), 10);
        check.no("another kind", x.task(3, 1, 20, 0, 0));
        check.same("as it was", x.due(0, 3, 0, 0), 10);
        check.yes("the same kind", x.task(3, 0, 20, 5, 7000));
        check.same("minutes from now on", x.due(0, 3, 0, 0), 20);
        check.same("cycles from now on", x.due(0, 3, 1, 0), 5);
        check.same("days from now on", x.due(0, 3, 2, 0), 7);
    }

    private static void order() {
        check.promise("promise 5");
        HangarBook x = new HangarBook();
        x.task(0, 0, 1, 1, 0);
        x.task(1, 0, 1, 1, 0);
        x.thing(7, 0, 0, 0, 0);
        x.thing(8, 0, 0, 0, 0);
        for (int bad : new int[] {NONE, 8, LOW, HIGH}) {
            check.no("order(order " + bad + ")", x.order(bad, 0, 39, 0, NONE));
        }
        for (int bad : Wrong.KINDS) {
            check.no("order(kind " + bad + ")", x.order(0, bad, 39, 0, NONE));
        }
        for (int bad : new int[] {-1, 40, 39 * 40 + 38, 1600, 1639, LOW, HIGH}) {
            check.no("order(span " + bad + ")", x.order(0, 0, bad, 0, NONE));
        }
        for (int bad : new int[] {NONE, 2, 16, LOW, HIGH}) {
            check.no("order(task " + bad + ")", x.order(0, 0, 39, bad, NONE));
        }
        for (int bad : new int[] {-2, 2, 16, LOW, HIGH}) {
            check.no("order(replaced " + bad + ")", x.order(0, 0, 39, 0, bad));
        }
        check.badArgument("nothing came of it", () -> x.rebuild(7, 0, 0));
        check.yes("one thing, the last", x.order(7, 11, 39 * 40 + 39, 0, NONE));
        check.yes("one thing, the first", x.order(6, 0, 0, 0, 1));
        check.same("in no order's span", x.asked(7, 0, 0), 0);
        check.yes("all things", x.order(0, 0, 39, 0, 1));
        check.same("an order's task", x.asked(7, 0, 0), 1);
        check.same("a replaced task", x.asked(7, 1, 0), 0);
        check.yes("a task that replaces itself", x.order(0, 0, 39, 0, 0));
        check.same("is not asked", x.asked(7, 0, 0), 0);
    }

    private static void orderAgain() {
        HangarBook x = new HangarBook();
        x.task(0, 0, 1, 1, 0);
        x.task(1, 0, 1, 1, 0);
        x.thing(7, 0, 0, 0, 0);
        x.thing(8, 0, 0, 0, 0);
        x.order(0, 0, 7 * 40 + 7, 0, 1);
        check.same("the bound one", x.asked(7, 0, 0), 1);
        check.same("the other one", x.asked(8, 0, 0), 0);
        x.rebuild(7, 0, 0);
        check.yes("an order anew", x.order(0, 0, 7 * 40 + 8, 0, NONE));
        check.same("the rebuilt one stays rebuilt", x.asked(7, 0, 0), 0);
        check.same("the other one is bound now", x.asked(8, 0, 0), 1);
        check.same("nothing is replaced now", x.asked(8, 1, 0), 1);
        check.no("a refused one", x.order(0, 0, 7 * 40 + 7, 0, 9));
        check.same("changes nothing", x.asked(8, 0, 0), 1);
    }

    private static void life() {
        check.promise("promise 6");
        HangarBook x = new HangarBook();
        for (int bad : Wrong.KINDS) {
            check.no("life(kind " + bad + ")", x.life(bad, 1, 1));
        }
        for (int bad : new int[] {-1, 1_000_001, LOW, HIGH}) {
            check.no("life(minutes " + bad + ")", x.life(0, bad, 1));
            check.no("life(cycles " + bad + ")", x.life(0, 1, bad));
        }
        x.thing(0, 0, 1_000_000, 50, 0);
        check.same("no life yet", x.grounded(0, 0), 0);
        check.yes("just so many minutes", x.life(0, 1_000_000, 0));
        check.same("not above it", x.grounded(0, 0), 0);
        check.yes("fewer minutes", x.life(0, 999_999, 0));
        check.same("above it", x.grounded(0, 0), 1);
        check.yes("no limit", x.life(0, 0, 50));
        check.same("not above the cycles", x.grounded(0, 0), 0);
        check.yes("fewer cycles", x.life(0, 0, 49));
        check.same("above the cycles", x.grounded(0, 0), 1);
        check.yes("another kind", x.life(11, 1_000_000, 1_000_000));
        check.same("is nothing to this one", x.grounded(0, 0), 1);
        check.yes("no limits", x.life(0, 0, 0));
        check.same("no limits, not grounded", x.grounded(0, 0), 0);
    }
}
