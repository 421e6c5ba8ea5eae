/** Promises 14 to 19: count, where, at, counter, due and asked. */
public final class StandingTest {
    private static final int NONE = HangarBook.NONE;
    private static final int LOW = Wrong.LOW;
    private static final int HIGH = Wrong.HIGH;
    private static final int LAST_POINT = 3_000_099;

    private static final Check check = new Check();

    public static void main(String[] args) {
        count();
        where();
        at();
        counter();
        counterMovesWithParts();
        due();
        dueByDoings();
        dueByConcessions();
        dueAtTheSamePoint();
        dueBeforeTheFirstDay();
        asked();
        askedByOrders();
        check.end();
    }

    /** Machines 0 and 1 of kind 0 hold kind 1 (things 2, 3), which holds kind 2 (things 4, 5). */
    private static HangarBook fleet() {
        HangarBook x = new HangarBook();
        x.place(0, 0, 1);
        x.place(0, 3, 1);
        x.place(1, 1, 2);
        for (int t = 0; t < 6; t++) {
            x.thing(t, t / 2, t * 1000, t * 10, t);
        }
        return x;
    }

    private static void count() {
        check.promise("promise 14");
        HangarBook x = fleet();
        check.same("things", x.count(2), 6);
        x.flight(0, 0, 1, 1);
        x.put(2, 0, 0, 0);
        x.take(2, 1);
        check.same("entries", x.count(0), 3);
        check.same("living", x.count(1), 3);
        x.strike(0);
        check.same("entries, one struck", x.count(0), 3);
        check.same("living, one struck", x.count(1), 2);
        for (int bad : new int[] {-1, 3, LOW, HIGH}) {
            check.same("count(" + bad + ")", x.count(bad), NONE);
        }
    }

    private static void where() {
        check.promise("promise 15");
        HangarBook x = fleet();
        x.put(4, 2, 1, 100);
        x.put(2, 0, 3, 200);
        int[][] want = {{99, NONE, NONE, NONE, 0}, {100, 2, 1, NONE, 1}, {199, 2, 1, NONE, 1},
            {200, 2, 1, 0, 2}, {LAST_POINT, 2, 1, 0, 2}, {0, NONE, NONE, NONE, 0}};
        for (int[] row : want) {
            for (int what = 0; what < 4; what++) {
                check.same("where(4, " + row[0] + ", " + what + ")", x.where(4, row[0], what), row[what + 1]);
            }
        }
        check.same("a machine's parent", x.where(0, 200, 0), NONE);
        check.same("a machine's place", x.where(0, 200, 1), NONE);
        check.same("a machine's machine", x.where(0, 200, 2), 0);
        check.same("a machine's depth", x.where(0, 200, 3), 0);
        for (int what = 0; what < 4; what++) {
            for (int bad : Wrong.THINGS) {
                check.same("where(t " + bad + ")", x.where(bad, 200, what), NONE);
            }
            for (int bad : Wrong.POINTS) {
                check.same("where(point " + bad + ")", x.where(0, bad, what), NONE);
            }
        }
        for (int bad : new int[] {-1, 4, LOW, HIGH}) {
            check.same("where(what " + bad + ")", x.where(4, 200, bad), NONE);
        }
    }

    private static void at() {
        check.promise("promise 16");
        HangarBook x = fleet();
        x.put(2, 0, 0, 100);
        x.put(3, 0, 3, 150);
        x.take(2, 200);
        check.same("before", x.at(0, 0, 99), NONE);
        check.same("from the point on", x.at(0, 0, 100), 2);
        check.same("the other place", x.at(0, 3, 150), 3);
        check.same("until it is taken", x.at(0, 0, 199), 2);
        check.same("taken", x.at(0, 0, 200), NONE);
        check.same("the other stays", x.at(0, 3, LAST_POINT), 3);
        check.same("a place for none ever", x.at(0, 1, 150), NONE);
        check.same("another machine", x.at(1, 0, 150), NONE);
        for (int bad : Wrong.THINGS) {
            check.same("at(t " + bad + ")", x.at(bad, 0, 150), NONE);
        }
        for (int bad : Wrong.PLACES) {
            check.same("at(p " + bad + ")", x.at(0, bad, 150), NONE);
        }
        for (int bad : Wrong.POINTS) {
            check.same("at(point " + bad + ")", x.at(0, 0, bad), NONE);
        }
    }

    private static void counter() {
        check.promise("promise 17");
        HangarBook x = fleet();
        x.flight(0, 500, 60, 2);
        x.flight(0, 599, 30, 1);
        x.flight(0, 600, 1, 1);
        check.same("minutes before", x.counter(0, 0, 4), 0);
        check.same("minutes at the end of a day", x.counter(0, 0, 5), 90);
        check.same("cycles at the end of a day", x.counter(0, 1, 5), 3);
        check.same("minutes of the next day", x.counter(0, 0, 6), 91);
        check.same("days", x.counter(5, 2, 30_000), 29_995);
        check.same("days at the first one", x.counter(5, 2, 5), 0);
        check.same("days below 0", x.counter(5, 2, 0), -5);
        check.same("minutes of the beginning", x.counter(5, 0, 0), 5000);
        check.same("cycles of the beginning", x.counter(5, 1, 30_000), 50);
        for (int unit = 0; unit < 3; unit++) {
            for (int bad : Wrong.THINGS) {
                check.same("counter(t " + bad + ")", x.counter(bad, unit, 6), 0);
            }
            for (int bad : Wrong.DAYS) {
                check.same("counter(day " + bad + ")", x.counter(5, unit, bad), 0);
            }
        }
        for (int bad : new int[] {-1, 3, LOW, HIGH}) {
            check.same("counter(unit " + bad + ")", x.counter(5, bad, 6), 0);
        }
    }

    private static void counterMovesWithParts() {
        HangarBook x = fleet();
        x.put(4, 2, 1, 50);
        x.put(2, 0, 0, 100);
        x.flight(0, 99, 1, 1);
        x.flight(0, 100, 10, 1);
        x.flight(0, 200, 100, 1);
        x.take(2, 200);
        x.flight(1, 250, 1000, 1);
        check.same("the flight at the put counts, that at the take doesn't", x.counter(2, 0, 3), 2010);
        check.same("what hangs in it counts with it", x.counter(4, 0, 3), 4010);
        check.same("the machine counts all of its own", x.counter(0, 0, 3), 111);
        check.same("what hangs nowhere counts none", x.counter(3, 0, 3), 3000);
        x.put(2, 1, 3, 220);
        check.same("a late move", x.counter(4, 0, 3), 5010);
        x.take(4, 90);
        check.same("a late take", x.counter(4, 0, 3), 4000);
        check.same("what it hung in", x.counter(2, 0, 3), 3010);
    }

    private static void due() {
        check.promise("promise 18");
        HangarBook x = fleet();
        x.task(0, 1, 100, 0, 0);
        x.task(1, 1, 0, 7, 30_000);
        check.same("minutes of the beginning", x.due(3, 0, 0, 0), 3100);
        check.same("cycles of the beginning", x.due(3, 1, 1, 0), 37);
        check.same("days from 0", x.due(3, 1, 2, 0), 30);
        check.same("no limit of cycles", x.due(3, 0, 1, 0), NONE);
        check.same("no limit of days", x.due(3, 0, 2, 0), NONE);
        check.same("no limit of minutes", x.due(3, 1, 0, 0), NONE);
        check.same("a thing of another kind", x.due(0, 0, 0, 0), 100);
        for (int bad : Wrong.THINGS) {
            check.same("due(t " + bad + ")", x.due(bad, 0, 0, 0), NONE);
        }
        for (int bad : new int[] {NONE, 2, 16, LOW, HIGH}) {
            check.same("due(task " + bad + ")", x.due(3, bad, 0, 0), NONE);
        }
        for (int bad : new int[] {-1, 3, LOW, HIGH}) {
            check.same("due(unit " + bad + ")", x.due(3, 0, bad, 0), NONE);
        }
        for (int bad : Wrong.DAYS) {
            check.same("due(day " + bad + ")", x.due(3, 0, 0, bad), NONE);
        }
    }

    /** The due point in minutes after a doing at this counter, first due at 105 with a grace of 10. */
    private static int dueAfterDoingAt(int minutes) {
        HangarBook x = new HangarBook();
        x.thing(0, 0, 0, 0, 0);
        x.task(0, 0, 105, 0, 100);
        x.flight(0, 100, minutes, 1);
        x.done(0, 0, 150);
        return x.due(0, 0, 0, 1);
    }

    private static void dueByDoings() {
        check.same("early", dueAfterDoingAt(50), 155);
        check.same("just due", dueAfterDoingAt(105), 210);
        check.same("late by 1, tolerated", dueAfterDoingAt(106), 210);
        check.same("late by all that is tolerated, cut", dueAfterDoingAt(115), 210);
        check.same("later than that", dueAfterDoingAt(116), 221);
        HangarBook x = new HangarBook();
        x.thing(0, 0, 0, 0, 10);
        x.task(0, 0, 100, 10, 20_500);
        x.flight(0, 1500, 150, 16);
        x.done(0, 0, 4100);
        check.same("minutes within the grace", x.due(0, 0, 0, 41), 200);
        check.same("cycles beyond the grace", x.due(0, 0, 1, 41), 26);
        check.same("days beyond the grace", x.due(0, 0, 2, 41), 51);
        x.done(0, 0, 3900);
        check.same("a late entry, days within", x.due(0, 0, 2, 39), 40);
        check.same("then the other doing, early", x.due(0, 0, 2, 41), 51);
        x.flight(0, 1400, 1, 0);
        check.same("a late flight moves minutes beyond", x.due(0, 0, 0, 39), 251);
        x.task(0, 0, 100, 10, 20_000);
        check.same("a task without tolerance from now on", x.due(0, 0, 2, 39), 49);
    }

    private static void dueByConcessions() {
        HangarBook x = new HangarBook();
        x.thing(0, 0, 0, 0, 0);
        x.task(0, 0, 100, 10, 20_000);
        x.task(1, 0, 100, 10, 20_000);
        x.concede(0, 0, 500, 5, 2 * 10_001 + 1);
        x.concede(0, 0, 600, 50, 20 * 10_001 + 10);
        check.same("the first counts", x.due(0, 0, 0, 6), 105);
        check.same("its cycles", x.due(0, 0, 1, 6), 12);
        check.same("its days", x.due(0, 0, 2, 6), 21);
        check.same("another task", x.due(0, 1, 0, 6), 100);
        x.concede(0, 0, 400, 0, 0);
        check.same("one of nothing is the first too", x.due(0, 0, 0, 6), 100);
        x.done(0, 0, 550);
        check.same("the doing, then a first one", x.due(0, 0, 0, 6), 150);
        check.same("before that", x.due(0, 0, 2, 5), 25);
        x.done(0, 1, 560);
        check.same("a doing of another task is nothing to it", x.due(0, 0, 0, 6), 150);
        x.strike(1);
        check.same("without it", x.due(0, 0, 0, 6), 100);
        x.thing(38, 0, 0, 0, 0);
        x.task(15, 0, 100, 10, 20_000);
        x.concede(38, 15, 700, 5, 2 * 10_001 + 1);
        check.same("the last task's minutes", x.due(38, 15, 0, 7), 105);
        check.same("the last task's cycles", x.due(38, 15, 1, 7), 12);
        check.same("the last task's days", x.due(38, 15, 2, 7), 21);
    }

    private static void dueAtTheSamePoint() {
        HangarBook x = new HangarBook();
        x.thing(0, 0, 0, 0, 0);
        x.task(0, 0, 100, 0, 0);
        x.done(0, 0, 500);
        x.concede(0, 0, 500, 7, 0);
        check.same("the doing, then the concession", x.due(0, 0, 0, 5), 107);
        x.flight(0, 500, 30, 1);
        check.same("a flight at the point, though entered later", x.due(0, 0, 0, 5), 137);
        x.strike(0);
        check.same("the concession alone", x.due(0, 0, 0, 5), 107);
        x.done(0, 0, 500);
        check.same("the concession, then the doing", x.due(0, 0, 0, 5), 130);
        x.concede(0, 0, 500, 9, 0);
        check.same("a concession since", x.due(0, 0, 0, 5), 139);
        HangarBook y = new HangarBook();
        y.place(0, 0, 1);
        y.thing(0, 0, 0, 0, 0);
        y.thing(1, 1, 0, 0, 0);
        y.task(0, 1, 100, 0, 0);
        y.done(1, 0, 500);
        y.flight(0, 500, 30, 1);
        check.same("it hangs nowhere", y.due(1, 0, 0, 5), 100);
        y.put(1, 0, 0, 500);
        check.same("a move, a flight and a doing at one point", y.due(1, 0, 0, 5), 130);
    }

    private static void dueBeforeTheFirstDay() {
        HangarBook x = new HangarBook();
        x.thing(0, 0, 0, 0, 100);
        x.task(0, 0, 0, 0, 9000);
        check.same("days at the beginning", x.due(0, 0, 2, 0), 9);
        x.done(0, 0, 5000);
        check.same("done before the first day", x.due(0, 0, 2, 50), -41);
        check.same("overdue then", x.asked(0, 0, 60), 2);
        check.same("just due", x.asked(0, 0, 59), 1);
    }

    private static void asked() {
        check.promise("promise 19");
        HangarBook x = fleet();
        x.task(0, 1, 100, 0, 0);
        x.task(1, 1, 0, 5, 0);
        x.task(2, 1, 0, 0, 5000);
        x.task(3, 1, 0, 0, 0);
        x.put(2, 0, 0, 0);
        x.flight(0, 300, 100, 5);
        x.flight(0, 400, 1, 0);
        x.flight(0, 500, 0, 1);
        int[][] want = {{3, 1, 1, 1, 1}, {4, 2, 1, 1, 1}, {5, 2, 2, 1, 1}, {7, 2, 2, 1, 1}, {8, 2, 2, 2, 1}};
        for (int[] row : want) {
            for (int task = 0; task < 4; task++) {
                check.same("asked(2, " + task + ", " + row[0] + ")", x.asked(2, task, row[0]), row[task + 1]);
            }
        }
        check.same("another kind", x.asked(0, 0, 5), 0);
        for (int bad : Wrong.THINGS) {
            check.same("asked(t " + bad + ")", x.asked(bad, 0, 5), 0);
        }
        for (int bad : new int[] {NONE, 4, 16, LOW, HIGH}) {
            check.same("asked(task " + bad + ")", x.asked(2, bad, 5), 0);
        }
        for (int bad : Wrong.DAYS) {
            check.same("asked(day " + bad + ")", x.asked(2, 0, bad), 0);
        }
    }

    private static void askedByOrders() {
        HangarBook x = fleet();
        x.task(0, 1, 100, 0, 0);
        x.task(1, 1, 100, 0, 0);
        x.task(2, 1, 100, 0, 0);
        x.order(0, 1, 2 * 40 + 2, 0, 1);
        check.same("bound", x.asked(2, 0, 5), 1);
        check.same("replaced", x.asked(2, 1, 5), 0);
        check.same("no order's", x.asked(2, 2, 5), 1);
        check.same("not bound", x.asked(3, 0, 5), 0);
        check.same("not replaced", x.asked(3, 1, 5), 1);
        x.rebuild(2, 0, 500);
        check.same("rebuilt", x.asked(2, 0, 5), 0);
        check.same("replaced no more", x.asked(2, 1, 5), 1);
        check.same("bound before", x.asked(2, 0, 4), 1);
        x.order(1, 1, 2 * 40 + 3, 0, NONE);
        check.same("bound by another order", x.asked(2, 0, 5), 1);
        check.same("bound by that one alone", x.asked(3, 0, 5), 1);
        x.order(2, 2, 39, 2, NONE);
        check.same("the task of an order for another kind", x.asked(2, 2, 5), 0);
        x.order(3, 1, 3 * 40 + 39, 2, 0);
        check.same("a binding order's task", x.asked(3, 2, 5), 1);
        check.same("replaced though another order binds it", x.asked(3, 0, 5), 0);
        check.same("the order is not for this one", x.asked(2, 0, 5), 1);
    }
}
