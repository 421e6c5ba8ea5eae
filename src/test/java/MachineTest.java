/** Promises 20 to 22: open, grounded and forecast. */
public final class MachineTest {
    private static final int NONE = HangarBook.NONE;
    private static final int LOW = Wrong.LOW;
    private static final int HIGH = Wrong.HIGH;
    private static final int[] NO_MACHINES = {NONE, 9, 40, 2, LOW, HIGH};

    private static final Check check = new Check();

    public static void main(String[] args) {
        open();
        grounded();
        groundedByItsOwnPlacesAlone();
        groundedByOrders();
        forecast();
        forecastOrder();
        forecastEdges();
        forecastOfLaterDays();
        check.end();
    }

    /** Machines 0 and 1 of kind 0 hold one of kind 1 (things 2, 3), which holds kind 2 (things 4, 5). */
    private static HangarBook fleet() {
        HangarBook x = new HangarBook();
        x.place(0, 0, 1);
        x.place(1, 1, 2);
        for (int t = 0; t < 6; t++) {
            x.thing(t, t / 2, 0, 0, 0);
        }
        return x;
    }

    private static void open() {
        check.promise("promise 20");
        HangarBook x = fleet();
        x.put(5, 3, 1, 0);
        x.put(3, 1, 0, 1);
        x.put(2, 0, 0, 2);
        x.task(15, 0, 10, 0, 0);
        x.task(4, 0, 10, 0, 0);
        x.task(7, 1, 10, 0, 0);
        x.task(8, 1, 12, 0, 0);
        x.task(0, 2, 10, 0, 0);
        x.flight(1, 100, 11, 1);
        int[] want = {1 * 16 + 4, 1 * 16 + 15, 3 * 16 + 7, 5 * 16 + 0, NONE};
        for (int i = 0; i < want.length; i++) {
            check.same("open(1, 1, " + i + ")", x.open(1, 1, i), want[i]);
        }
        check.same("the day before", x.open(1, 0, 0), NONE);
        check.same("another machine", x.open(0, 1, 0), NONE);
        x.flight(0, 10, 11, 1);
        check.same("the first thing", x.open(0, 0, 0), 0 * 16 + 4);
        check.same("its next task", x.open(0, 0, 1), 0 * 16 + 15);
        check.same("what hangs in it", x.open(0, 0, 2), 2 * 16 + 7);
        x.take(3, 150);
        check.same("taken out at the end of the day", x.open(1, 1, 2), NONE);
        check.same("in it the others are", x.open(1, 1, 1), 1 * 16 + 15);
        x.order(0, 0, 39, 4, 15);
        check.same("a replaced one is not open", x.open(1, 1, 1), NONE);
        x.rebuild(1, 0, 199);
        check.same("rebuilt: the other one is", x.open(1, 1, 0), 1 * 16 + 15);
        for (int bad : NO_MACHINES) {
            check.same("open(machine " + bad + ")", x.open(bad, 1, 0), NONE);
        }
        check.same("a part that hangs nowhere", x.open(3, 1, 0), NONE);
        for (int bad : Wrong.DAYS) {
            check.same("open(day " + bad + ")", x.open(1, bad, 0), NONE);
        }
        for (int bad : new int[] {-1, LOW, HIGH}) {
            check.same("open(i " + bad + ")", x.open(1, 1, bad), NONE);
        }
    }

    private static void grounded() {
        check.promise("promise 21");
        HangarBook x = fleet();
        x.put(2, 0, 0, 100);
        check.same("a part with an empty place", x.grounded(0, 1), 1);
        x.put(4, 2, 1, 200);
        check.same("all full", x.grounded(0, 2), 0);
        check.same("the day before", x.grounded(0, 1), 1);
        check.same("another one is empty", x.grounded(1, 2), 1);
        x.life(2, 50, 5);
        x.life(1, 1000, 0);
        x.flight(0, 300, 50, 5);
        check.same("at its life's limits", x.grounded(0, 3), 0);
        int cycle = x.flight(0, 400, 0, 1);
        check.same("above the cycles", x.grounded(0, 4), 1);
        check.same("not the day before", x.grounded(0, 3), 0);
        x.strike(cycle);
        check.same("struck", x.grounded(0, 4), 0);
        x.flight(0, 400, 1, 0);
        check.same("above the minutes", x.grounded(0, 4), 1);
        x.take(4, 500);
        x.put(5, 2, 1, 501);
        check.same("a new part", x.grounded(0, 5), 0);
        x.take(5, 502);
        check.same("an empty place", x.grounded(0, 5), 1);
        for (int bad : NO_MACHINES) {
            check.same("grounded(machine " + bad + ")", x.grounded(bad, 5), NONE);
        }
        for (int bad : Wrong.DAYS) {
            check.same("grounded(day " + bad + ")", x.grounded(0, bad), NONE);
        }
    }

    private static void groundedByItsOwnPlacesAlone() {
        HangarBook x = new HangarBook();
        x.place(0, 3, 2);
        x.place(1, 0, 2);
        x.thing(0, 0, 0, 0, 0);
        x.thing(1, 1, 0, 0, 0);
        x.thing(2, 2, 0, 0, 0);
        check.same("its last place is empty", x.grounded(0, 0), 1);
        x.put(2, 0, 3, 0);
        check.same("its last place is full", x.grounded(0, 0), 0);
        check.same("the next machine's is empty", x.grounded(1, 0), 1);
        HangarBook last = new HangarBook();
        last.thing(39, 11, 0, 0, 0);
        check.same("the last thing of the last kind", last.grounded(39, 0), 0);
    }

    private static void groundedByOrders() {
        HangarBook x = fleet();
        x.put(2, 0, 0, 0);
        x.put(4, 2, 1, 1);
        x.task(0, 2, 0, 0, 5000);
        x.task(1, 2, 0, 0, 7000);
        check.same("overdue, but of no order", x.grounded(0, 6), 0);
        x.order(0, 2, 4 * 40 + 4, 0, NONE);
        check.same("just due", x.grounded(0, 5), 0);
        check.same("overdue by an order", x.grounded(0, 6), 1);
        x.order(1, 2, 4 * 40 + 4, 1, 0);
        check.same("replaced by another order", x.grounded(0, 6), 0);
        check.same("until that one's is overdue", x.grounded(0, 8), 1);
        x.rebuild(4, 1, 799);
        check.same("rebuilt, so the first order's again", x.grounded(0, 8), 1);
        x.rebuild(4, 0, 800);
        check.same("rebuilt by both", x.grounded(0, 8), 0);
        check.same("not before", x.grounded(0, 7), 1);
        x.task(2, 1, 0, 0, 3000);
        x.order(2, 2, 39, 2, NONE);
        check.same("an order whose task is of another kind", x.grounded(0, 8), 0);
    }

    private static int told(int day, int t, int task) {
        return day * 640 + t * 16 + task;
    }

    private static void forecast() {
        check.promise("promise 22");
        HangarBook x = fleet();
        x.put(2, 0, 0, 0);
        x.task(0, 0, 100, 0, 0);
        x.task(1, 0, 0, 10, 0);
        x.task(2, 1, 0, 0, 30_000);
        x.task(3, 1, 0, 0, 0);
        x.flight(0, 500, 50, 5);
        check.same("minutes, 50 left, 10 a day", x.forecast(0, 5, 10, 0, 0), told(11, 0, 0));
        check.same("then the days", x.forecast(0, 5, 10, 0, 1), told(31, 2, 2));
        check.same("nothing else ever", x.forecast(0, 5, 10, 0, 2), NONE);
        check.same("minutes, 50 left, 11 a day", x.forecast(0, 5, 11, 0, 0), told(10, 0, 0));
        check.same("cycles, 5 left, 1 a day", x.forecast(0, 5, 0, 1, 0), told(11, 0, 1));
        check.same("nothing flown: the days alone", x.forecast(0, 5, 0, 0, 0), told(31, 2, 2));
        check.same("the fastest pace", x.forecast(0, 5, 1440, 1440, 1), told(6, 0, 1));
        check.same("the least of three limits", x.forecast(0, 5, 1440, 1440, 2), told(31, 2, 2));
        x.flight(0, 501, 51, 0);
        check.same("overdue already", x.forecast(0, 5, 0, 0, 0), told(5, 0, 0));
        x.task(2, 1, 5000, 500, 30_000);
        check.same("minutes first", x.forecast(0, 5, 1000, 0, 1), told(10, 2, 2));
        check.same("cycles first", x.forecast(0, 5, 0, 124, 2), told(9, 2, 2));
        check.same("days first", x.forecast(0, 5, 1, 1, 2), told(31, 2, 2));
        for (int bad : new int[] {-1, 1441, LOW, HIGH}) {
            check.same("forecast(minutes " + bad + ")", x.forecast(0, 5, bad, 0, 0), NONE);
            check.same("forecast(cycles " + bad + ")", x.forecast(0, 5, 0, bad, 0), NONE);
        }
        for (int bad : NO_MACHINES) {
            check.same("forecast(machine " + bad + ")", x.forecast(bad, 5, 0, 0, 0), NONE);
        }
        for (int bad : Wrong.DAYS) {
            check.same("forecast(day " + bad + ")", x.forecast(0, bad, 0, 0, 0), NONE);
        }
        for (int bad : new int[] {-1, LOW, HIGH}) {
            check.same("forecast(i " + bad + ")", x.forecast(0, 5, 0, 0, bad), NONE);
        }
    }

    private static void forecastOrder() {
        HangarBook x = fleet();
        x.put(3, 0, 0, 0);
        x.put(4, 3, 1, 1);
        x.task(9, 0, 0, 0, 20_000);
        x.task(2, 0, 0, 0, 20_000);
        x.task(1, 1, 0, 0, 20_000);
        x.task(0, 2, 0, 0, 10_000);
        x.task(5, 2, 0, 0, 30_000);
        int[] want = {told(11, 4, 0), told(21, 0, 2), told(21, 0, 9), told(21, 3, 1), told(31, 4, 5), NONE};
        for (int i = 0; i < want.length; i++) {
            check.same("forecast(.., " + i + ")", x.forecast(0, 1, 0, 0, i), want[i]);
        }
        x.order(0, 0, 39, 9, 2);
        check.same("a replaced one is left out", x.forecast(0, 1, 0, 0, 1), told(21, 0, 9));
        check.same("and the next one follows", x.forecast(0, 1, 0, 0, 2), told(21, 3, 1));
        check.same("the other machine has its own", x.forecast(1, 1, 0, 0, 0), told(21, 1, 9));
        check.same("and no more", x.forecast(1, 1, 0, 0, 1), NONE);
    }

    private static void forecastEdges() {
        HangarBook x = new HangarBook();
        x.thing(0, 0, 0, 0, 0);
        x.task(0, 0, 0, 0, 39_999_000);
        check.same("day 40,000", x.forecast(0, 0, 0, 0, 0), told(40_000, 0, 0));
        check.same("seen from the last day", x.forecast(0, 30_000, 0, 0, 0), told(40_000, 0, 0));
        x.task(0, 0, 0, 0, 40_000_000);
        check.same("day 40,001", x.forecast(0, 0, 0, 0, 0), NONE);
        x.task(0, 0, 40_000, 0, 0);
        check.same("minutes, day 40,000 + 1", x.forecast(0, 0, 1, 0, 0), NONE);
        x.task(0, 0, 39_999, 0, 0);
        check.same("minutes, day 40,000", x.forecast(0, 0, 1, 0, 0), told(40_000, 0, 0));
        x.task(0, 0, 10, 0, 0);
        check.same("never flown", x.forecast(0, 0, 0, 1440, 0), NONE);
        check.same("above, not at", x.forecast(0, 100, 10, 0, 0), told(102, 0, 0));
        x.thing(1, 0, 0, 0, 30_000);
        x.task(1, 0, 0, 0, 1000);
        check.same("days before the first one", x.forecast(1, 0, 0, 0, 0), told(30_002, 1, 1));
    }

    private static void forecastOfLaterDays() {
        HangarBook x = fleet();
        x.put(2, 0, 0, 0);
        x.task(0, 1, 100, 0, 0);
        x.order(0, 1, 39, 0, NONE);
        x.flight(0, 600, 1000, 0);
        x.done(2, 0, 700);
        x.concede(2, 0, 800, 10, 0);
        x.rebuild(2, 0, 900);
        x.take(2, 950);
        check.same("later entries count for nothing", x.forecast(0, 5, 10, 0, 0), told(16, 2, 0));
        check.same("the flight's day", x.forecast(0, 6, 10, 0, 0), told(6, 2, 0));
        check.same("the doing's day", x.forecast(0, 7, 10, 0, 0), told(18, 2, 0));
        check.same("the concession's day", x.forecast(0, 8, 10, 0, 0), told(20, 2, 0));
        check.same("the rebuilding's day", x.forecast(0, 9, 10, 0, 0), NONE);
    }
}
