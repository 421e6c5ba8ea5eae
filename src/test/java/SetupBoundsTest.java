/** Promises 1 to 6, bound by bound: just inside it, just outside it, and nothing changed by what is refused. */
public final class SetupBoundsTest {
    private static final int NONE = HangarBook.NONE;
    private static final int LOW = Wrong.LOW;
    private static final int HIGH = Wrong.HIGH;
    private static final int[] NO_MILLION = {-1, 1_000_001, LOW, HIGH};
    private static final int[] NO_INTERVAL = {-1, 100_001, LOW, HIGH};

    private static final Check check = new Check();
    private static final Refusals unmade = new Refusals(check, Books::layout);
    private static final Refusals fleet = new Refusals(check, Books::fleet);
    private static final Refusals flown = new Refusals(check, Books::flown);

    public static void main(String[] args) {
        newObject();
        placeKind();
        placePlace();
        placeChild();
        placeOnceThereAreThings();
        thingNumber();
        thingThereAlready();
        thingKind();
        thingAmounts();
        thingDay();
        taskNumber();
        taskKind();
        taskIntervals();
        taskDaysAndTolerance();
        taskOfAnotherKind();
        orderNumber();
        orderKind();
        orderSpan();
        orderFirstAboveLast();
        orderTask();
        orderReplaced();
        lifeKind();
        lifeLimits();
        check.end();
    }

    private static void newObject() {
        check.promise("promise 1, nothing is in the book");
        HangarBook x = new HangarBook();
        for (int what = 0; what < 3; what++) {
            check.same("count(" + what + ")", x.count(what), 0);
        }
        check.badArgument("no entry", () -> x.strike(0));
        for (int t = 0; t < 40; t++) {
            check.same("no thing " + t, x.where(t, 0, 3), NONE);
        }
        x.thing(0, 0, 1_000_000, 1_000_000, 0);
        for (int task = 0; task < 16; task++) {
            int no = task;
            check.badArgument("no task " + task, () -> x.done(0, no, 0));
        }
        for (int order = 0; order < 8; order++) {
            int no = order;
            check.badArgument("no order " + order, () -> x.rebuild(0, no, 0));
        }
        for (int kind = 1; kind < 12; kind++) {
            x.thing(kind, kind, 1_000_000, 1_000_000, 0);
            check.same("no place and no life of kind " + kind, x.grounded(kind, 0), 0);
        }
        check.same("another object has nothing of it", new HangarBook().count(2), 0);
    }

    private static void placeKind() {
        check.promise("promise 2, no such kind");
        for (int kind : new int[] {0, 11}) {
            HangarBook x = new HangarBook();
            check.yes("place(" + kind + ", 0, 5)", x.place(kind, 0, 5));
            x.thing(0, kind, 0, 0, 0);
            x.thing(1, 5, 0, 0, 0);
            check.same("it hangs there", x.put(1, 0, 0, 0), 0);
        }
        for (int bad : Wrong.KINDS) {
            unmade.no("place(kind " + bad + ")", x -> x.place(bad, 0, 11));
        }
    }

    private static void placePlace() {
        check.promise("promise 2, no such place");
        for (int p : new int[] {0, 3}) {
            HangarBook x = new HangarBook();
            check.yes("place(0, " + p + ", 1)", x.place(0, p, 1));
            x.thing(0, 0, 0, 0, 0);
            x.thing(1, 1, 0, 0, 0);
            check.same("it hangs there", x.put(1, 0, p, 0), 0);
        }
        for (int bad : Wrong.PLACES) {
            unmade.no("place(p " + bad + ")", x -> x.place(1, bad, 11));
        }
    }

    private static void placeChild() {
        check.promise("promise 2, no such child");
        for (int child : new int[] {0, 11}) {
            HangarBook x = new HangarBook();
            check.yes("place(5, 0, " + child + ")", x.place(5, 0, child));
            x.thing(0, 5, 0, 0, 0);
            x.thing(1, child, 0, 0, 0);
            check.same("it hangs there", x.put(1, 0, 0, 0), 0);
        }
        HangarBook x = Books.layout();
        check.yes("NONE is a child", x.place(0, 0, NONE));
        x.thing(0, 0, 0, 0, 0);
        x.thing(2, 1, 0, 0, 0);
        check.badState("none ever hangs there", () -> x.put(2, 0, 0, 0));
        check.same("the other place stays", x.put(2, 0, 3, 0), 0);
        for (int bad : new int[] {-2, 12, LOW, HIGH}) {
            unmade.no("place(child " + bad + ")", y -> y.place(0, 0, bad));
        }
    }

    private static void placeOnceThereAreThings() {
        check.promise("promise 2, there are things");
        HangarBook x = new HangarBook();
        x.task(0, 0, 1, 1, 0);
        x.order(0, 0, 39, 0, NONE);
        x.life(0, 1, 1);
        x.thing(40, 0, 0, 0, 0);
        check.yes("tasks, orders, lives and a refused thing are no things", x.place(0, 0, 1));
        x.thing(39, 7, 0, 0, 0);
        check.no("one thing is enough", x.place(0, 1, 1));
        fleet.no("another child", y -> y.place(0, 0, 2));
        fleet.no("the same child", y -> y.place(0, 0, 1));
        fleet.no("a place of its own", y -> y.place(11, 0, 3));
        fleet.no("none ever", y -> y.place(0, 3, NONE));
    }

    private static void thingNumber() {
        check.promise("promise 3, it is none");
        HangarBook x = new HangarBook();
        check.yes("thing(0)", x.thing(0, 0, 1, 0, 0));
        check.yes("thing(39)", x.thing(39, 0, 2, 0, 0));
        check.same("both are there", x.count(2), 2);
        check.same("the first one's minutes", x.counter(0, 0, 0), 1);
        check.same("the last one's minutes", x.counter(39, 0, 0), 2);
        for (int bad : new int[] {-1, 40, LOW, HIGH}) {
            fleet.no("thing(" + bad + ")", y -> y.thing(bad, 0, 0, 0, 0));
        }
    }

    private static void thingThereAlready() {
        check.promise("promise 3, there already");
        HangarBook x = Books.alone();
        check.yes("the next one is not", x.thing(1, 0, 5, 6, 7));
        check.no("now it is", x.thing(1, 0, 8, 9, 10));
        check.same("its minutes stay", x.counter(1, 0, 20), 5);
        check.same("its cycles stay", x.counter(1, 1, 20), 6);
        check.same("its day stays", x.counter(1, 2, 20), 13);
        flown.no("the same again", y -> y.thing(39, 11, 70, 7, 9));
        flown.no("another kind", y -> y.thing(2, 0, 0, 0, 0));
        flown.no("other amounts", y -> y.thing(2, 1, 1, 1, 1));
    }

    private static void thingKind() {
        check.promise("promise 3, no such kind");
        HangarBook x = Books.fleet();
        check.yes("kind 0", x.thing(10, 0, 0, 0, 0));
        check.yes("kind 11", x.thing(11, 11, 0, 0, 0));
        check.same("kind 0 has places", x.grounded(10, 0), 1);
        check.same("kind 11 has none", x.grounded(11, 0), 0);
        for (int bad : Wrong.KINDS) {
            fleet.no("thing(kind " + bad + ")", y -> y.thing(10, bad, 0, 0, 0));
        }
    }

    private static void thingAmounts() {
        check.promise("promise 3, minutes or cycles are not 0 .. 1,000,000");
        HangarBook x = new HangarBook();
        check.yes("no minutes", x.thing(0, 0, 0, 1_000_000, 0));
        check.yes("no cycles", x.thing(1, 0, 1_000_000, 0, 0));
        check.same("the least minutes", x.counter(0, 0, 0), 0);
        check.same("the most cycles", x.counter(0, 1, 0), 1_000_000);
        check.same("the most minutes", x.counter(1, 0, 0), 1_000_000);
        check.same("the least cycles", x.counter(1, 1, 0), 0);
        for (int bad : NO_MILLION) {
            fleet.no("thing(minutes " + bad + ")", y -> y.thing(10, 0, bad, 0, 0));
            fleet.no("thing(cycles " + bad + ")", y -> y.thing(10, 0, 0, bad, 0));
        }
    }

    private static void thingDay() {
        check.promise("promise 3, day is none");
        HangarBook x = new HangarBook();
        check.yes("day 0", x.thing(0, 0, 0, 0, 0));
        check.yes("day 30,000", x.thing(1, 0, 0, 0, 30_000));
        check.same("days since the first", x.counter(0, 2, 30_000), 30_000);
        check.same("days since the last", x.counter(1, 2, 30_000), 0);
        for (int bad : Wrong.DAYS) {
            fleet.no("thing(day " + bad + ")", y -> y.thing(10, 0, 0, 0, bad));
        }
    }

    private static void taskNumber() {
        check.promise("promise 4, it is none");
        HangarBook x = Books.alone();
        check.yes("task(0)", x.task(0, 0, 5, 0, 0));
        check.yes("task(15)", x.task(15, 0, 6, 0, 0));
        check.same("the first one", x.due(0, 0, 0, 0), 5);
        check.same("the last one", x.due(0, 15, 0, 0), 6);
        for (int bad : new int[] {-1, 16, LOW, HIGH}) {
            flown.no("task(" + bad + ")", y -> y.task(bad, 0, 7, 7, 7_000));
        }
    }

    private static void taskKind() {
        check.promise("promise 4, no such kind");
        HangarBook x = Books.fleet();
        check.yes("kind 0", x.task(2, 0, 5, 0, 0));
        check.yes("kind 11", x.task(3, 11, 6, 0, 0));
        check.same("asked of kind 0", x.asked(0, 2, 0), 1);
        check.same("asked of kind 11", x.asked(39, 3, 0), 1);
        check.same("not of another", x.asked(39, 2, 0), 0);
        for (int bad : Wrong.KINDS) {
            flown.no("task(kind " + bad + ")", y -> y.task(2, bad, 7, 7, 7_000));
        }
    }

    private static void taskIntervals() {
        check.promise("promise 4, an interval is not as said");
        HangarBook x = Books.alone();
        check.yes("the most", x.task(0, 0, 100_000, 100_000, 0));
        check.same("minutes", x.due(0, 0, 0, 0), 100_000);
        check.same("cycles", x.due(0, 0, 1, 0), 100_000);
        check.yes("the least that is a limit", x.task(0, 0, 1, 1, 0));
        check.same("a minute", x.due(0, 0, 0, 0), 1);
        check.same("a cycle", x.due(0, 0, 1, 0), 1);
        check.yes("no limit", x.task(0, 0, 0, 0, 0));
        check.same("no limit of minutes", x.due(0, 0, 0, 0), NONE);
        check.same("no limit of cycles", x.due(0, 0, 1, 0), NONE);
        for (int bad : NO_INTERVAL) {
            flown.no("task(minutes " + bad + ")", y -> y.task(0, 0, bad, 7, 7_000));
            flown.no("task(cycles " + bad + ")", y -> y.task(0, 0, 7, bad, 7_000));
            flown.no("a new task(minutes " + bad + ")", y -> y.task(2, 0, bad, 7, 7_000));
            flown.no("a new task(cycles " + bad + ")", y -> y.task(2, 0, 7, bad, 7_000));
        }
    }

    private static void taskDaysAndTolerance() {
        check.promise("promise 4, more = days * 1000 + tolerance");
        HangarBook x = Books.alone();
        check.yes("the most of both", x.task(0, 0, 0, 0, 100_000_500));
        check.same("100,000 days", x.due(0, 0, 2, 0), 100_000);
        check.yes("a day, no tolerance", x.task(0, 0, 0, 0, 1_000));
        check.same("1 day", x.due(0, 0, 2, 0), 1);
        check.yes("no day, the most tolerance", x.task(0, 0, 0, 0, 500));
        check.same("no limit of days", x.due(0, 0, 2, 0), NONE);
        check.yes("nothing of both", x.task(0, 0, 0, 0, 0));
        check.same("still no limit of days", x.due(0, 0, 2, 0), NONE);
        check.same("tolerance 500", minutesDueWith(500), 2_000);
        check.same("tolerance 499", minutesDueWith(499), 2_500);
        int[] wrong = {-1, -500, -1_000, 501, 999, 1_501, 99_999_501, 100_000_501, 100_001_000, LOW, HIGH};
        for (int bad : wrong) {
            flown.no("task(more " + bad + ")", y -> y.task(0, 0, 7, 7, bad));
            flown.no("a new task(more " + bad + ")", y -> y.task(2, 0, 7, 7, bad));
        }
    }

    /** Due after a doing that came 500 minutes late, with an interval of 1,000. */
    private static int minutesDueWith(int tolerance) {
        HangarBook x = Books.alone();
        x.task(0, 0, 1_000, 0, tolerance);
        x.flight(0, 100, 1_500, 0);
        x.done(0, 0, 200);
        return x.due(0, 0, 0, 2);
    }

    private static void taskOfAnotherKind() {
        check.promise("promise 4, there already with another kind");
        HangarBook x = Books.flown();
        check.yes("with the same kind it is so from now on", x.task(1, 1, 77, 78, 79_000));
        check.same("minutes", x.due(2, 1, 0, 0), 2_077);
        check.same("cycles", x.due(2, 1, 1, 0), 98);
        check.same("days", x.due(2, 1, 2, 0), 79);
        check.yes("a refused one is not there", !x.task(2, 12, 1, 1, 0) && x.task(2, 5, 1, 1, 0));
        for (int kind : new int[] {0, 2, 11}) {
            flown.no("task(1, " + kind + ")", y -> y.task(1, kind, 77, 78, 79_000));
        }
    }

    private static void orderNumber() {
        check.promise("promise 5, it is none");
        HangarBook x = Books.alone();
        x.task(0, 0, 5, 0, 0);
        for (int order : new int[] {0, 7}) {
            check.badArgument("not there yet", () -> x.rebuild(0, order, 0));
            check.yes("order(" + order + ")", x.order(order, 0, 39, 0, NONE));
            check.fine("there", () -> x.rebuild(0, order, 0));
        }
        for (int bad : new int[] {-1, 8, LOW, HIGH}) {
            flown.no("order(" + bad + ")", y -> y.order(bad, 1, 39, 1, 0));
        }
    }

    private static void orderKind() {
        check.promise("promise 5, no such kind");
        HangarBook x = Books.fleet();
        x.task(2, 0, 5, 0, 0);
        x.task(3, 11, 5, 0, 0);
        check.yes("kind 0", x.order(1, 0, 1, 2, NONE));
        check.yes("kind 11", x.order(2, 11, 39 * 40 + 39, 3, NONE));
        check.same("binds kind 0", x.asked(0, 2, 0), 1);
        check.same("binds kind 11", x.asked(39, 3, 0), 1);
        for (int bad : Wrong.KINDS) {
            flown.no("order(kind " + bad + ")", y -> y.order(0, bad, 39, 0, NONE));
            flown.no("a new order(kind " + bad + ")", y -> y.order(1, bad, 39, 0, NONE));
        }
    }

    private static void orderSpan() {
        check.promise("promise 5, first or last is none");
        for (int[] span : new int[][] {{0, 0}, {0, 39}, {39, 39}, {5, 6}}) {
            HangarBook x = new HangarBook();
            x.task(0, 0, 5, 0, 0);
            check.yes("order(" + span[0] + " .. " + span[1] + ")", x.order(0, 0, span[0] * 40 + span[1], 0, NONE));
            for (int t = 0; t < 40; t++) {
                x.thing(t, 0, 0, 0, 0);
                check.same("thing " + t, x.asked(t, 0, 0), t >= span[0] && t <= span[1] ? 1 : 0);
            }
        }
        for (int bad : new int[] {-1, -40, -1_600, 1_600, 1_639, 40 * 40 + 40, LOW, HIGH}) {
            flown.no("order(span " + bad + ")", y -> y.order(0, 0, bad, 0, NONE));
            flown.no("a new order(span " + bad + ")", y -> y.order(1, 0, bad, 0, NONE));
        }
    }

    private static void orderFirstAboveLast() {
        check.promise("promise 5, first above last");
        for (int t = 0; t < 40; t++) {
            HangarBook x = Books.fleet();
            check.yes("order(" + t + " .. " + t + ")", x.order(1, 0, t * 40 + t, 0, NONE));
            if (t > 0) {
                check.no("order(" + t + " .. " + (t - 1) + ")", x.order(2, 0, t * 40 + t - 1, 0, NONE));
            }
        }
        flown.no("order(1 .. 0)", y -> y.order(0, 0, 1 * 40, 0, NONE));
        flown.no("order(3 .. 2)", y -> y.order(7, 1, 3 * 40 + 2, 1, NONE));
        flown.no("order(39 .. 0)", y -> y.order(1, 0, 39 * 40, 0, NONE));
    }

    private static void orderTask() {
        check.promise("promise 5, a task is not there");
        HangarBook x = Books.fleet();
        check.no("not yet", x.order(1, 0, 39, 2, NONE));
        x.task(2, 0, 5, 0, 0);
        check.yes("then it is", x.order(1, 0, 39, 2, NONE));
        check.yes("the last task", x.order(1, 0, 39, 15, NONE));
        check.yes("the first task", x.order(1, 0, 39, 0, NONE));
        for (int bad : new int[] {NONE, 2, 14, 16, LOW, HIGH}) {
            flown.no("order(task " + bad + ")", y -> y.order(0, 0, 39, bad, NONE));
            flown.no("a new order(task " + bad + ")", y -> y.order(1, 0, 39, bad, NONE));
        }
    }

    private static void orderReplaced() {
        check.promise("promise 5, replaced is a task or NONE");
        HangarBook x = Books.fleet();
        check.no("not there yet", x.order(0, 0, 39, 0, 2));
        x.task(2, 0, 5, 0, 0);
        check.yes("there", x.order(0, 0, 39, 0, 2));
        check.same("it is replaced", x.asked(0, 2, 0), 0);
        check.yes("NONE", x.order(0, 0, 39, 0, NONE));
        check.same("it is no more", x.asked(0, 2, 0), 1);
        check.same("nor is the order's own", x.asked(0, 0, 0), 1);
        check.yes("the same", x.order(0, 0, 39, 0, 0));
        check.same("replaces itself", x.asked(0, 0, 0), 0);
        check.yes("the last task", x.order(0, 0, 39, 0, 15));
        for (int bad : new int[] {-2, 2, 14, 16, LOW, HIGH}) {
            flown.no("order(replaced " + bad + ")", y -> y.order(0, 0, 39, 0, bad));
            flown.no("a new order(replaced " + bad + ")", y -> y.order(1, 0, 39, 0, bad));
        }
    }

    private static void lifeKind() {
        check.promise("promise 6, no such kind");
        for (int kind : new int[] {0, 11}) {
            HangarBook x = new HangarBook();
            x.thing(0, kind, 100, 10, 0);
            x.thing(1, 5, 100, 10, 0);
            check.yes("life(" + kind + ")", x.life(kind, 99, 0));
            check.same("has it", x.grounded(0, 0), 1);
            check.same("another has not", x.grounded(1, 0), 0);
        }
        for (int bad : Wrong.KINDS) {
            flown.no("life(" + bad + ")", y -> y.life(bad, 1, 1));
        }
    }

    private static void lifeLimits() {
        check.promise("promise 6, a limit is not 0 .. 1,000,000");
        HangarBook x = new HangarBook();
        x.thing(0, 11, 1_000_000, 1_000_000, 0);
        x.flight(0, 100, 1, 0);
        x.flight(0, 200, 0, 1);
        check.yes("no limits", x.life(11, 0, 0));
        check.same("none is passed", x.grounded(0, 2), 0);
        check.yes("the most minutes", x.life(11, 1_000_000, 0));
        check.same("reached", x.grounded(0, 0), 0);
        check.same("passed", x.grounded(0, 1), 1);
        check.yes("the most cycles", x.life(11, 0, 1_000_000));
        check.same("reached by cycles", x.grounded(0, 1), 0);
        check.same("passed by cycles", x.grounded(0, 2), 1);
        check.yes("the least limits", x.life(11, 1, 1));
        check.same("passed long since", x.grounded(0, 0), 1);
        for (int bad : NO_MILLION) {
            flown.no("life(minutes " + bad + ")", y -> y.life(11, bad, 1));
            flown.no("life(cycles " + bad + ")", y -> y.life(11, 1, bad));
            flown.no("another life(minutes " + bad + ")", y -> y.life(1, bad, 1));
            flown.no("another life(cycles " + bad + ")", y -> y.life(1, 1, bad));
        }
    }
}
