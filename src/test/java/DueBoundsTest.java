/** The bounds that the terms name for tasks, due points, orders, lives and what grounds a machine. */
public final class DueBoundsTest {
    private static final int NONE = HangarBook.NONE;
    private static final int LAST_DAY = Books.LAST_DAY;

    private static final Check check = new Check();

    public static void main(String[] args) {
        sixteenTasks();
        dueAtTheBeginning();
        dueInOrderOfPoints();
        dueInOrderOfNumbers();
        dueUpToThatPoint();
        firstConcession();
        firstConcessionOfEachTask();
        firstConcessionStruck();
        doingAtTheDuePoint();
        doingWithinTolerance();
        toleranceIsCut();
        toleranceUnitByUnit();
        toleranceAfterAConcession();
        overdueInSomeUnit();
        eightOrders();
        orderBindsFirstToLast();
        orderUntilRebuilt();
        askedOfItsKind();
        askedUnlessReplaced();
        askedIfAnyOfItsOrdersBinds();
        lifeOfWhatHangsInIt();
        lifeWithoutLimit();
        emptyPlaces();
        orderOverdue();
        groundedAtTheEndOfADay();
        fiveHundredAndTwelveCalls();
        check.end();
    }

    private static void sixteenTasks() {
        check.promise("terms, tasks are 0 .. 15");
        HangarBook x = Books.alone();
        for (int task = 0; task < 16; task++) {
            check.yes("task(" + task + ")", x.task(task, 0, task + 1, task + 20, (task + 40) * 1_000));
        }
        for (int task = 0; task < 16; task++) {
            x.concede(0, task, 100 + task, 100 * task, 0);
            check.same("minutes of " + task, x.due(0, task, 0, 1), 101 * task + 1);
            check.same("cycles of " + task, x.due(0, task, 1, 1), task + 20);
            check.same("days of " + task, x.due(0, task, 2, 1), task + 40);
        }
    }

    private static void dueAtTheBeginning() {
        check.promise("terms, first its counter at the beginning (days: 0) and the interval");
        HangarBook x = new HangarBook();
        x.thing(0, 0, 1_000_000, 999_999, 30_000);
        x.thing(1, 0, 0, 0, 0);
        x.task(0, 0, 100_000, 100_000, 100_000_000);
        x.flight(0, 0, 500, 50);
        for (int day : new int[] {0, LAST_DAY}) {
            check.same("minutes", x.due(0, 0, 0, day), 1_100_000);
            check.same("cycles", x.due(0, 0, 1, day), 1_099_999);
            check.same("days", x.due(0, 0, 2, day), 100_000);
            check.same("minutes of another", x.due(1, 0, 0, day), 100_000);
            check.same("days of another", x.due(1, 0, 2, day), 100_000);
        }
    }

    private static void dueInOrderOfPoints() {
        check.promise("terms, in order of their points");
        HangarBook x = Books.alone();
        x.task(0, 0, 0, 0, 10_500);
        x.done(0, 0, 2_500);
        check.same("done late on day 25", x.due(0, 0, 2, 25), 35);
        x.done(0, 0, 1_500);
        check.same("entered later, done before: on day 15, tolerated", x.due(0, 0, 2, 15), 20);
        check.same("then on day 25, tolerated", x.due(0, 0, 2, 25), 30);
        x.concede(0, 0, 1_600, 0, 5);
        check.same("entered last, conceded between", x.due(0, 0, 2, 24), 25);
        check.same("so that day 25 is not late", x.due(0, 0, 2, 25), 35);
    }

    private static void dueInOrderOfNumbers() {
        check.promise("terms, at the same point in order of their numbers");
        HangarBook x = Books.alone();
        x.task(0, 0, 0, 0, 10_000);
        x.concede(0, 0, 500, 0, 3);
        x.done(0, 0, 500);
        check.same("conceded, then done", x.due(0, 0, 2, 5), 15);
        x.strike(0);
        x.concede(0, 0, 500, 0, 3);
        check.same("done, then conceded", x.due(0, 0, 2, 5), 18);
        x.concede(0, 0, 500, 0, 4);
        check.same("conceded twice", x.due(0, 0, 2, 5), 18);
        x.done(0, 0, 500);
        check.same("done again", x.due(0, 0, 2, 5), 15);
        x.concede(0, 0, 500, 0, 4);
        check.same("and conceded again", x.due(0, 0, 2, 5), 19);
        x.flight(0, 500, 30, 1);
        x.task(1, 0, 100, 0, 0);
        x.done(0, 1, 600);
        x.flight(0, 600, 7, 1);
        check.same("a flight at its point is counted, whatever its number", x.due(0, 1, 0, 6), 137);
    }

    private static void dueUpToThatPoint() {
        check.promise("terms, the living doings and concessions up to that point");
        HangarBook x = Books.alone();
        x.task(0, 0, 0, 0, 10_000);
        x.done(0, 0, 599);
        check.same("a doing at the day's last point", x.due(0, 0, 2, 5), 15);
        check.same("not a day before", x.due(0, 0, 2, 4), 10);
        x.concede(0, 0, 700, 0, 3);
        check.same("a concession at the next day's first point", x.due(0, 0, 2, 6), 15);
        check.same("on its day", x.due(0, 0, 2, 7), 18);
        x.concede(0, 0, 699, 0, 1);
        check.same("one at the day's last point", x.due(0, 0, 2, 6), 16);
        check.same("is the first one then", x.due(0, 0, 2, 7), 16);
    }

    private static void firstConcession() {
        check.promise("terms, a concession, the first one since the doing before (or the beginning)");
        HangarBook x = Books.alone();
        x.thing(1, 0, 0, 0, 0);
        x.task(0, 0, 100, 50, 10_000);
        x.task(1, 0, 100, 50, 10_000);
        x.concede(0, 0, 100, 1, 2 * 10_001 + 3);
        x.concede(0, 0, 200, 10, 20 * 10_001 + 30);
        int[] first = {101, 52, 13};
        int[] none = {100, 50, 10};
        for (int unit = 0; unit < 3; unit++) {
            check.same("the first since the beginning, unit " + unit, x.due(0, 0, unit, 1), first[unit]);
            check.same("a second counts for nothing, unit " + unit, x.due(0, 0, unit, 2), first[unit]);
            check.same("nothing for another task, unit " + unit, x.due(0, 1, unit, 2), none[unit]);
            check.same("nothing for another thing, unit " + unit, x.due(1, 0, unit, 2), none[unit]);
        }
        x.done(0, 1, 300);
        x.done(1, 0, 300);
        x.concede(0, 0, 310, 10, 20 * 10_001 + 30);
        check.same("a doing of another task or thing opens none", x.due(0, 0, 0, 3), 101);
        x.done(0, 0, 400);
        x.concede(0, 0, 500, 10, 20 * 10_001 + 30);
        x.concede(0, 0, 501, 10, 20 * 10_001 + 30);
        check.same("the first since the doing", x.due(0, 0, 0, 5), 110);
        check.same("its days", x.due(0, 0, 2, 5), 44);
    }

    private static void firstConcessionOfEachTask() {
        check.promise("terms, the doings and concessions of a task are its own");
        HangarBook x = Books.alone();
        x.task(0, 0, 100, 0, 0);
        x.task(1, 0, 100, 0, 0);
        x.concede(0, 0, 100, 1, 0);
        x.concede(0, 1, 200, 2, 0);
        x.concede(0, 0, 300, 10, 0);
        x.concede(0, 1, 400, 20, 0);
        check.same("a first one of another task between two", x.due(0, 0, 0, 4), 101);
        check.same("the other task's", x.due(0, 1, 0, 4), 102);
        x.done(0, 0, 500);
        x.concede(0, 1, 510, 20, 0);
        check.same("a doing of another task between two", x.due(0, 1, 0, 5), 102);
        x.done(0, 1, 520);
        x.done(0, 0, 530);
        x.concede(0, 1, 540, 30, 0);
        x.concede(0, 0, 550, 40, 0);
        check.same("a doing of another task before a first one", x.due(0, 1, 0, 5), 130);
        check.same("that other task's first one", x.due(0, 0, 0, 5), 140);
    }

    private static void firstConcessionStruck() {
        check.promise("terms, living concessions");
        HangarBook x = Books.alone();
        x.task(0, 0, 100, 0, 0);
        x.concede(0, 0, 100, 0, 0);
        x.concede(0, 0, 200, 7, 0);
        check.same("one of nothing is the first", x.due(0, 0, 0, 3), 100);
        x.strike(0);
        check.same("struck, the second is the first", x.due(0, 0, 0, 3), 107);
        x.done(0, 0, 150);
        x.concede(0, 0, 140, 50, 0);
        check.same("a doing between them", x.due(0, 0, 0, 3), 107);
        x.strike(2);
        check.same("struck, one of them counts", x.due(0, 0, 0, 3), 150);
    }

    /** What is due by minutes after a doing at so many, first due at the interval. */
    private static int dueAfter(int minutes, int interval, int tolerance) {
        HangarBook x = Books.alone();
        x.task(0, 0, interval, 0, tolerance);
        for (int left = minutes; left > 0; left -= 100_000) {
            x.flight(0, 100, Math.min(left, 100_000), 0);
        }
        x.done(0, 0, 101);
        return x.due(0, 0, 0, 1);
    }

    private static void doingAtTheDuePoint() {
        check.promise("terms, a doing: if c is above the due point");
        check.same("nothing flown", dueAfter(0, 100, 500), 100);
        check.same("just before it", dueAfter(99, 100, 500), 199);
        check.same("at it", dueAfter(100, 100, 500), 200);
        check.same("just above it", dueAfter(101, 100, 500), 200);
        check.same("at it, without tolerance", dueAfter(100, 100, 0), 200);
        check.same("just above it, without tolerance", dueAfter(101, 100, 0), 201);
    }

    private static void doingWithinTolerance() {
        check.promise("terms, not above it by more than the interval * tolerance / 1000");
        check.same("all of the tolerance", dueAfter(110, 100, 100), 200);
        check.same("one more", dueAfter(111, 100, 100), 211);
        check.same("all of the widest", dueAfter(150, 100, 500), 200);
        check.same("one more than the widest", dueAfter(151, 100, 500), 251);
        check.same("all of the widest of the longest", dueAfter(150_000, 100_000, 500), 200_000);
        check.same("one more than that", dueAfter(150_001, 100_000, 500), 250_001);
    }

    private static void toleranceIsCut() {
        check.promise("terms, interval * tolerance / 1000, cut");
        check.same("0.999 is none", dueAfter(1_000, 999, 1), 1_999);
        check.same("1.000 is one", dueAfter(1_001, 1_000, 1), 2_000);
        check.same("1.999 is one", dueAfter(2_000, 1_999, 1), 3_998);
        check.same("1.999 is not two", dueAfter(2_001, 1_999, 1), 4_000);
        check.same("0.5 is none", dueAfter(2, 1, 500), 3);
        check.same("1.0 is one", dueAfter(3, 2, 500), 4);
    }

    private static void toleranceUnitByUnit() {
        check.promise("terms, the due point in a unit with a limit");
        HangarBook x = Books.alone();
        x.task(0, 0, 100, 10, 20_100);
        x.flight(0, 2_100, 111, 11);
        x.done(0, 0, 2_200);
        check.same("minutes too late", x.due(0, 0, 0, 22), 211);
        check.same("cycles late, tolerated", x.due(0, 0, 1, 22), 20);
        check.same("days late, tolerated", x.due(0, 0, 2, 22), 40);
        HangarBook y = Books.alone();
        y.task(0, 0, 100, 10, 20_100);
        y.flight(0, 2_100, 110, 12);
        y.done(0, 0, 2_300);
        check.same("minutes late, tolerated", y.due(0, 0, 0, 23), 200);
        check.same("cycles too late", y.due(0, 0, 1, 23), 22);
        check.same("days too late", y.due(0, 0, 2, 23), 43);
    }

    private static void toleranceAfterAConcession() {
        check.promise("terms, a doing after a concession");
        int[][] want = {{104, 204}, {105, 205}, {106, 205}, {115, 205}, {116, 216}};
        for (int[] row : want) {
            HangarBook x = Books.alone();
            x.task(0, 0, 100, 0, 100);
            x.concede(0, 0, 50, 5, 0);
            x.flight(0, 100, row[0], 0);
            x.done(0, 0, 101);
            check.same("due at 105, done at " + row[0], x.due(0, 0, 0, 1), row[1]);
        }
    }

    private static void overdueInSomeUnit() {
        check.promise("terms, overdue, if in some unit with a limit the counter is above it");
        int[][] want = {{100, 10, 5, 1}, {101, 10, 5, 2}, {100, 11, 5, 2}, {100, 10, 6, 2}, {101, 11, 6, 2}};
        for (int[] row : want) {
            HangarBook x = Books.alone();
            x.task(0, 0, 100, 10, 5_500);
            x.task(1, 0, 0, 0, 0);
            x.flight(0, 100, row[0], row[1]);
            check.same(row[0] + " minutes, " + row[1] + " cycles, " + row[2] + " days", x.asked(0, 0, row[2]), row[3]);
            check.same("without limits", x.asked(0, 1, row[2]), 1);
        }
    }

    private static void eightOrders() {
        check.promise("terms, orders are 0 .. 7");
        HangarBook x = new HangarBook();
        for (int i = 0; i < 8; i++) {
            x.thing(i, 0, 0, 0, 0);
            x.task(i, 0, 0, 0, 1_000);
            check.yes("order(" + i + ")", x.order(i, 0, i * 40 + i, i, NONE));
        }
        x.rebuild(3, 3, 0);
        x.rebuild(4, 5, 0);
        for (int t = 0; t < 8; t++) {
            for (int task = 0; task < 8; task++) {
                check.same("asked(" + t + ", " + task + ", 0)", x.asked(t, task, 0), t == task && t != 3 ? 1 : 0);
            }
        }
        check.no("no more", x.order(8, 0, 39, 0, NONE));
    }

    private static void orderBindsFirstToLast() {
        check.promise("terms, for things first .. last of a kind");
        HangarBook x = new HangarBook();
        for (int t = 0; t < 8; t++) {
            x.thing(t, t == 4 ? 1 : 0, 0, 0, 0);
        }
        x.task(0, 0, 0, 0, 1_000);
        x.task(1, 0, 0, 0, 1_000);
        x.task(2, 1, 0, 0, 1_000);
        x.order(0, 0, 2 * 40 + 5, 0, 1);
        int[] asked = {0, 0, 1, 1, 0, 1, 0, 0};
        int[] replaced = {1, 1, 0, 0, 0, 0, 1, 1};
        for (int t = 0; t < 8; t++) {
            check.same("the order's task of " + t, x.asked(t, 0, 0), asked[t]);
            check.same("the replaced task of " + t, x.asked(t, 1, 0), replaced[t]);
            check.same("the task of another kind of " + t, x.asked(t, 2, 0), t == 4 ? 1 : 0);
        }
    }

    private static void orderUntilRebuilt() {
        check.promise("terms, no living rebuilding by that order up to the point");
        HangarBook x = Books.alone();
        x.thing(1, 0, 0, 0, 0);
        x.task(0, 0, 0, 0, 100_000);
        x.order(0, 0, 39, 0, NONE);
        x.order(1, 0, 39, 0, NONE);
        x.rebuild(0, 0, 500);
        check.same("another order binds it", x.asked(0, 0, 5), 1);
        x.rebuild(0, 1, 699);
        check.same("at the day's last point", x.asked(0, 0, 6), 0);
        check.same("bound the day before", x.asked(0, 0, 5), 1);
        check.same("another thing", x.asked(1, 0, 6), 1);
        x.strike(1);
        check.same("struck", x.asked(0, 0, 6), 1);
        x.rebuild(0, 1, 700);
        check.same("at the next day's first point", x.asked(0, 0, 6), 1);
        check.same("on that day", x.asked(0, 0, 7), 0);
        x.rebuild(0, 1, 650);
        x.strike(2);
        check.same("twice, one of them struck", x.asked(0, 0, 6), 0);
    }

    private static void askedOfItsKind() {
        check.promise("terms, a task is asked, if it is of its kind");
        HangarBook x = Books.fleet();
        x.task(2, 0, 1, 0, 0);
        x.task(3, 11, 1, 0, 0);
        for (int t : new int[] {0, 1, 2, 3, 4, 5, 6, 39}) {
            check.same("a task of kind 0 of " + t, x.asked(t, 2, 0), t < 2 ? 1 : 0);
            check.same("a task of kind 11 of " + t, x.asked(t, 3, 0), t == 39 ? 1 : 0);
        }
        x.order(1, 1, 39, 2, NONE);
        check.same("not even if an order binds another kind to it", x.asked(2, 2, 0), 0);
        check.same("nor of its own kind then, as none binds it", x.asked(0, 2, 0), 0);
    }

    private static void askedUnlessReplaced() {
        check.promise("terms, no order that binds it replaces it");
        HangarBook x = Books.alone();
        x.thing(1, 0, 0, 0, 0);
        x.task(0, 0, 0, 0, 100_000);
        x.task(1, 0, 0, 0, 100_000);
        x.order(0, 0, 0, 0, 1);
        check.same("replaced", x.asked(0, 1, 5), 0);
        check.same("not of what the order does not bind", x.asked(1, 1, 5), 1);
        x.rebuild(0, 0, 500);
        check.same("rebuilt, it is replaced no more", x.asked(0, 1, 5), 1);
        check.same("before that it was", x.asked(0, 1, 4), 0);
        x.order(1, 0, 0, 1, 1);
        check.same("an order that replaces its own task", x.asked(0, 1, 5), 0);
        x.order(2, 0, 0, 1, NONE);
        check.same("another one that asks for it does not help", x.asked(0, 1, 5), 0);
        x.rebuild(0, 1, 600);
        check.same("until the first is rebuilt", x.asked(0, 1, 6), 1);
    }

    private static void askedIfAnyOfItsOrdersBinds() {
        check.promise("terms, if it is the task of an order (any), one of those with this task binds it");
        HangarBook x = Books.alone();
        x.task(0, 0, 0, 0, 100_000);
        x.task(1, 0, 0, 0, 100_000);
        check.same("of no order", x.asked(0, 0, 5), 1);
        x.order(0, 0, 40 + 39, 0, NONE);
        check.same("of an order for other things", x.asked(0, 0, 5), 0);
        x.order(7, 0, 0, 0, NONE);
        check.same("of another one for this thing too", x.asked(0, 0, 5), 1);
        x.rebuild(0, 7, 500);
        check.same("rebuilt", x.asked(0, 0, 5), 0);
        x.order(7, 0, 0, 1, NONE);
        check.same("the order has another task now", x.asked(0, 1, 5), 0);
        check.same("and does not ask for this one", x.asked(0, 0, 4), 0);
        x.order(0, 5, 40 + 39, 1, NONE);
        check.same("this one is no order's any more", x.asked(0, 0, 5), 1);
    }

    /** Machine 39 holds 0, that holds 1, that holds 2, and that holds 3, from day 1 on; no place is left empty. */
    private static HangarBook whole() {
        HangarBook x = new HangarBook();
        int[] things = {39, 0, 1, 2, 3};
        for (int kind = 0; kind < 4; kind++) {
            x.place(kind, kind, kind + 1);
        }
        for (int kind = 0; kind < 5; kind++) {
            x.thing(things[kind], kind, 0, 0, 0);
        }
        for (int kind = 1; kind < 5; kind++) {
            x.put(things[kind], things[kind - 1], kind - 1, 99 + kind);
        }
        return x;
    }

    private static void lifeOfWhatHangsInIt() {
        check.promise("terms, grounded if a counter of anything in its tree (itself too) is above its life's limit");
        for (int kind = 0; kind < 5; kind++) {
            HangarBook x = whole();
            x.life(kind, 100, 10);
            x.flight(39, 200, 100, 10);
            x.flight(39, 300, 1, 0);
            check.same("at both limits of kind " + kind, x.grounded(39, 2), 0);
            check.same("above the minutes of kind " + kind, x.grounded(39, 3), 1);
            x.life(kind, 101, 10);
            check.same("a minute more of kind " + kind, x.grounded(39, 3), 0);
            x.life(kind, 101, 9);
            check.same("above the cycles of kind " + kind, x.grounded(39, 3), 1);
        }
        HangarBook x = whole();
        x.thing(9, 4, 5_000, 0, 0);
        x.life(4, 4_999, 0);
        check.same("what does not hang in it is none of it", x.grounded(39, 2), 0);
        x.take(3, 300);
        x.put(9, 2, 3, 301);
        check.same("until it does", x.grounded(39, 3), 1);
    }

    private static void lifeWithoutLimit() {
        check.promise("terms, a life of minutes and cycles (0: no limit)");
        HangarBook x = new HangarBook();
        x.thing(0, 0, 5, 5, 0);
        int[][] want = {{0, 0, 0}, {1, 0, 1}, {0, 1, 1}, {5, 5, 0}, {4, 0, 1}, {0, 4, 1}, {5, 0, 0}, {0, 5, 0}};
        for (int[] row : want) {
            x.life(0, row[0], row[1]);
            check.same("life(0, " + row[0] + ", " + row[1] + ")", x.grounded(0, 0), row[2]);
        }
    }

    private static void emptyPlaces() {
        check.promise("terms, or a place of it in which a kind may hang is empty");
        HangarBook x = whole();
        check.same("all full", x.grounded(39, 1), 0);
        check.same("before", x.grounded(39, 0), 1);
        for (int t = 0; t < 4; t++) {
            HangarBook y = whole();
            y.take(t, 299);
            check.same("thing " + t + " taken at the day's last point", y.grounded(39, 2), 1);
            check.same("full before", y.grounded(39, 1), 0);
            HangarBook next = whole();
            next.take(t, 300);
            check.same("thing " + t + " taken at the next day's first point", next.grounded(39, 2), 0);
            check.same("empty then", next.grounded(39, 3), 1);
        }
    }

    private static void orderOverdue() {
        check.promise("terms, or a task of an order that binds it is asked and overdue");
        int[] things = {39, 0, 1, 2, 3};
        for (int kind = 0; kind < 5; kind++) {
            int t = things[kind];
            HangarBook x = whole();
            x.task(0, kind, 0, 0, 5_000);
            x.task(1, kind, 0, 0, 0);
            check.same("overdue, of no order", x.grounded(39, 6), 0);
            x.order(0, kind, t * 40 + t, 0, NONE);
            check.same("of an order, just due", x.grounded(39, 5), 0);
            check.same("of an order, overdue", x.grounded(39, 6), 1);
            x.order(1, kind, t * 40 + t, 1, 0);
            check.same("replaced, so not asked", x.grounded(39, 6), 0);
            x.order(1, kind, t * 40 + t, 1, NONE);
            x.rebuild(t, 0, 700);
            check.same("bound still", x.grounded(39, 6), 1);
            check.same("bound no more", x.grounded(39, 7), 0);
            x.strike(4);
            x.done(t, 0, 600);
            check.same("done", x.grounded(39, 6), 0);
        }
    }

    private static void groundedAtTheEndOfADay() {
        check.promise("terms, grounded at a day, at its last point");
        HangarBook x = whole();
        x.life(0, 100, 0);
        x.flight(39, 300, 101, 0);
        check.same("a flight at the next day's first point", x.grounded(39, 2), 0);
        x.strike(4);
        x.flight(39, 299, 101, 0);
        check.same("a flight at the day's last point", x.grounded(39, 2), 1);
        x.life(0, 0, 0);
        x.task(0, 4, 0, 0, 5_000);
        x.order(0, 4, 39, 0, NONE);
        x.rebuild(3, 0, 700);
        check.same("rebuilt at the next day's first point", x.grounded(39, 6), 1);
        x.rebuild(3, 0, 699);
        check.same("rebuilt at the day's last point", x.grounded(39, 6), 0);
    }

    private static void fiveHundredAndTwelveCalls() {
        check.promise("what it is, at most 512 calls");
        HangarBook x = Books.alone();
        for (int i = 0; i < 200; i++) {
            x.flight(0, i, 1, 0);
        }
        for (int i = 0; i < 310; i++) {
            check.same("call " + (202 + i), x.counter(0, 0, i % 2), 100 + 100 * (i % 2));
        }
        check.same("call 512", x.count(1), 200);
    }
}
