/** Promises 14 to 22, bound by bound: just inside it, just outside it, and nothing changed by what is refused. */
public final class QuestionsBoundsTest {
    private static final int NONE = HangarBook.NONE;
    private static final int LOW = Wrong.LOW;
    private static final int HIGH = Wrong.HIGH;
    private static final int LAST_DAY = Books.LAST_DAY;
    private static final int LAST_POINT = Books.LAST_POINT;
    private static final int[] NO_UNITS = {-1, 3, LOW, HIGH};
    private static final int[] NO_PACES = {-1, 1_441, LOW, HIGH};

    private static final Check check = new Check();
    private static final Refusals flown = new Refusals(check, Books::flown);

    public static void main(String[] args) {
        countWhat();
        whereThing();
        wherePoint();
        whereWhat();
        whereItHangsNowhere();
        atThing();
        atPlace();
        atPoint();
        counterThing();
        counterUnit();
        counterDay();
        dueThing();
        dueTask();
        dueUnit();
        dueDay();
        dueWithoutLimit();
        askedThing();
        askedTask();
        askedDay();
        askedAndOverdue();
        openNumber();
        openIfAsked();
        openMachine();
        openDay();
        groundedMachine();
        groundedDay();
        forecastNumber();
        forecastIfAsked();
        forecastMachine();
        forecastDay();
        forecastAmounts();
        forecastFirstDay();
        forecastLastDay();
        forecastNever();
        forecastSameDay();
        forecastLaterEntries();
        check.end();
    }

    private static void countWhat() {
        check.promise("promise 14, another what");
        HangarBook x = Books.flown();
        check.same("entries", x.count(0), 10);
        check.same("living ones", x.count(1), 9);
        check.same("things", x.count(2), 8);
        for (int bad : new int[] {-1, 3, LOW, HIGH}) {
            flown.same("count(" + bad + ")", y -> y.count(bad), NONE);
        }
    }

    private static void whereThing() {
        check.promise("promise 15, no such thing");
        HangarBook x = Books.flown();
        check.same("the first thing", x.where(0, 260, 2), 0);
        check.same("the last thing", x.where(39, 260, 2), 39);
        for (int what = 0; what < 4; what++) {
            int asked = what;
            for (int bad : Wrong.FLEET_THINGS) {
                flown.same("where(" + bad + ", 260, " + what + ")", y -> y.where(bad, 260, asked), NONE);
            }
        }
    }

    private static void wherePoint() {
        check.promise("promise 15, no such point");
        HangarBook x = Books.flown();
        check.same("the first point", x.where(2, 0, 3), 0);
        check.same("the last point", x.where(2, LAST_POINT, 3), 1);
        check.same("before the move", x.where(2, 99, 0), NONE);
        check.same("at the move", x.where(2, 100, 0), 0);
        for (int what = 0; what < 4; what++) {
            int asked = what;
            for (int bad : Wrong.POINTS) {
                flown.same("where(5, " + bad + ", " + what + ")", y -> y.where(5, bad, asked), NONE);
            }
        }
    }

    private static void whereWhat() {
        check.promise("promise 15, no such what");
        HangarBook x = Books.flown();
        int[] want = {6, 1, 0, 2};
        for (int what = 0; what < 4; what++) {
            check.same("where(5, 260, " + what + ")", x.where(5, 260, what), want[what]);
        }
        for (int bad : new int[] {-1, 4, LOW, HIGH}) {
            flown.same("where(5, 260, " + bad + ")", y -> y.where(5, 260, bad), NONE);
        }
    }

    private static void whereItHangsNowhere() {
        check.promise("promise 15, it hangs nowhere, or has no machine");
        HangarBook x = Books.flown();
        int[] part = {NONE, NONE, NONE, 0};
        int[] machine = {NONE, NONE, 1, 0};
        int[] inAPart = {6, 1, NONE, 1};
        for (int what = 0; what < 4; what++) {
            check.same("a part, where " + what, x.where(3, 260, what), part[what]);
            check.same("a part taken out, where " + what, x.where(4, 300, what), part[what]);
            check.same("a machine, where " + what, x.where(1, 260, what), machine[what]);
            check.same("in a part that hangs nowhere, where " + what, x.where(5, 109, what), inAPart[what]);
        }
    }

    private static void atThing() {
        check.promise("promise 16, no such thing");
        HangarBook x = new HangarBook();
        x.place(0, 2, 1);
        x.thing(0, 0, 0, 0, 0);
        x.thing(39, 0, 0, 0, 0);
        x.thing(7, 1, 0, 0, 0);
        x.thing(8, 1, 0, 0, 0);
        x.put(7, 0, 2, 0);
        x.put(8, 39, 2, 1);
        check.same("in the first thing", x.at(0, 2, 1), 7);
        check.same("in the last thing", x.at(39, 2, 1), 8);
        for (int bad : Wrong.FLEET_THINGS) {
            for (int p = 0; p < 4; p++) {
                int place = p;
                flown.same("at(" + bad + ", " + p + ", 260)", y -> y.at(bad, place, 260), NONE);
            }
        }
    }

    private static void atPlace() {
        check.promise("promise 16, no such place");
        HangarBook x = Books.flown();
        int[] want = {2, NONE, NONE, 6};
        for (int p = 0; p < 4; p++) {
            check.same("at(0, " + p + ", 260)", x.at(0, p, 260), want[p]);
        }
        for (int bad : new int[] {-1, 4, 5, LOW, HIGH}) {
            flown.same("at(0, " + bad + ", 260)", y -> y.at(0, bad, 260), NONE);
            flown.same("at(2, " + bad + ", 260)", y -> y.at(2, bad, 260), NONE);
        }
    }

    private static void atPoint() {
        check.promise("promise 16, no such point");
        HangarBook x = Books.fleet();
        x.put(2, 0, 0, 0);
        x.put(3, 0, 3, LAST_POINT);
        check.same("the first point", x.at(0, 0, 0), 2);
        check.same("before the last point", x.at(0, 3, LAST_POINT - 1), NONE);
        check.same("the last point", x.at(0, 3, LAST_POINT), 3);
        for (int bad : Wrong.POINTS) {
            flown.same("at(0, 0, " + bad + ")", y -> y.at(0, 0, bad), NONE);
        }
    }

    private static void counterThing() {
        check.promise("promise 17, no such thing");
        HangarBook x = Books.flown();
        check.same("the first thing", x.counter(0, 0, 1), 105);
        check.same("the last thing", x.counter(39, 0, 1), 70);
        for (int unit = 0; unit < 3; unit++) {
            int asked = unit;
            for (int bad : Wrong.FLEET_THINGS) {
                flown.same("counter(" + bad + ", " + unit + ", 2)", y -> y.counter(bad, asked, 2), 0);
            }
        }
    }

    private static void counterUnit() {
        check.promise("promise 17, no such unit");
        HangarBook x = Books.flown();
        int[] want = {2_105, 32, 18};
        for (int unit = 0; unit < 3; unit++) {
            check.same("counter(2, " + unit + ", 20)", x.counter(2, unit, 20), want[unit]);
        }
        for (int bad : NO_UNITS) {
            flown.same("counter(2, " + bad + ", 20)", y -> y.counter(2, bad, 20), 0);
        }
    }

    private static void counterDay() {
        check.promise("promise 17, no such day");
        HangarBook x = Books.flown();
        check.same("minutes on the first day", x.counter(2, 0, 0), 2_000);
        check.same("minutes on the last day", x.counter(2, 0, LAST_DAY), 2_105);
        check.same("days on the first day", x.counter(2, 2, 0), -2);
        check.same("days on the last day", x.counter(2, 2, LAST_DAY), 29_998);
        for (int unit = 0; unit < 3; unit++) {
            int asked = unit;
            for (int bad : Wrong.DAYS) {
                flown.same("counter(2, " + unit + ", " + bad + ")", y -> y.counter(2, asked, bad), 0);
            }
        }
    }

    private static void dueThing() {
        check.promise("promise 18, no such thing");
        HangarBook x = Books.flown();
        check.same("the first thing", x.due(0, 0, 0, 1), 100);
        check.same("the last thing", x.due(39, 0, 0, 1), 170);
        for (int bad : Wrong.FLEET_THINGS) {
            flown.same("due(" + bad + ", 0, 0, 2)", y -> y.due(bad, 0, 0, 2), NONE);
        }
    }

    private static void dueTask() {
        check.promise("promise 18, no such task");
        HangarBook x = Books.flown();
        check.same("the first task", x.due(0, 0, 0, 1), 100);
        check.same("the last task", x.due(4, 15, 1, 1), 60);
        for (int unit = 0; unit < 3; unit++) {
            int asked = unit;
            for (int bad : Wrong.FLEET_TASKS) {
                flown.same("due(0, " + bad + ", " + unit + ", 2)", y -> y.due(0, bad, asked, 2), NONE);
            }
        }
    }

    private static void dueUnit() {
        check.promise("promise 18, no such unit");
        HangarBook x = Books.flown();
        int[] want = {100, 10, 5};
        for (int unit = 0; unit < 3; unit++) {
            check.same("due(0, 0, " + unit + ", 1)", x.due(0, 0, unit, 1), want[unit]);
        }
        for (int bad : NO_UNITS) {
            flown.same("due(0, 0, " + bad + ", 2)", y -> y.due(0, 0, bad, 2), NONE);
        }
    }

    private static void dueDay() {
        check.promise("promise 18, no such day");
        HangarBook x = Books.flown();
        check.same("the first day", x.due(0, 0, 0, 0), 100);
        check.same("the last day", x.due(0, 0, 0, LAST_DAY), 205);
        for (int unit = 0; unit < 3; unit++) {
            int asked = unit;
            for (int bad : Wrong.DAYS) {
                flown.same("due(0, 0, " + unit + ", " + bad + ")", y -> y.due(0, 0, asked, bad), NONE);
            }
        }
    }

    private static void dueWithoutLimit() {
        check.promise("promise 18, no limit");
        HangarBook x = Books.alone();
        int[][] limits = {{1, 0, 0}, {0, 1, 0}, {0, 0, 1}, {0, 0, 0}};
        for (int task = 0; task < limits.length; task++) {
            x.task(task, 0, limits[task][0], limits[task][1], limits[task][2] * 1_000);
            x.done(0, task, 100);
            x.concede(0, task, 200, 9, 9 * 10_001 + 9);
            for (int unit = 0; unit < 3; unit++) {
                boolean limited = limits[task][unit] > 0;
                check.same("due(0, " + task + ", " + unit + ", 0)", x.due(0, task, unit, 0), limited ? 1 : NONE);
                check.same("done and conceded, unit " + unit, x.due(0, task, unit, 2),
                        limited ? unit == 2 ? 11 : 10 : NONE);
            }
        }
    }

    private static void askedThing() {
        check.promise("promise 19, no such thing");
        HangarBook x = Books.fleet();
        x.task(3, 11, 0, 0, 30_000);
        check.same("the first thing", x.asked(0, 0, 1), 1);
        check.same("the last thing", x.asked(39, 3, 1), 1);
        for (int bad : Wrong.FLEET_THINGS) {
            flown.same("asked(" + bad + ", 0, 1)", y -> y.asked(bad, 0, 1), 0);
            flown.same("asked(" + bad + ", 0, 30,000)", y -> y.asked(bad, 0, LAST_DAY), 0);
        }
    }

    private static void askedTask() {
        check.promise("promise 19, no such task");
        HangarBook x = Books.flown();
        check.same("the first task", x.asked(0, 0, 2), 1);
        check.same("the last task", x.asked(4, 15, 1), 1);
        for (int bad : Wrong.FLEET_TASKS) {
            flown.same("asked(0, " + bad + ", 1)", y -> y.asked(0, bad, 1), 0);
            flown.same("asked(39, " + bad + ", 1)", y -> y.asked(39, bad, 1), 0);
        }
    }

    private static void askedDay() {
        check.promise("promise 19, no such day");
        HangarBook x = Books.flown();
        check.same("the first day", x.asked(0, 0, 0), 1);
        check.same("the last day", x.asked(0, 0, LAST_DAY), 2);
        for (int bad : Wrong.DAYS) {
            flown.same("asked(0, 0, " + bad + ")", y -> y.asked(0, 0, bad), 0);
        }
    }

    private static void askedAndOverdue() {
        check.promise("promise 19, overdue besides, at the end of a day");
        HangarBook x = Books.alone();
        x.task(0, 0, 100, 0, 0);
        x.task(1, 0, 0, 10, 0);
        x.task(2, 0, 0, 0, 5_000);
        x.flight(0, 100, 100, 10);
        x.flight(0, 299, 1, 0);
        x.flight(0, 300, 0, 1);
        check.same("minutes reach the due point", x.asked(0, 0, 1), 1);
        check.same("above it at the day's last point", x.asked(0, 0, 2), 2);
        check.same("cycles reach it, the next day's first point is none of it", x.asked(0, 1, 2), 1);
        check.same("above it on that day", x.asked(0, 1, 3), 2);
        check.same("days reach it", x.asked(0, 2, 5), 1);
        check.same("days above it", x.asked(0, 2, 6), 2);
        x.order(0, 5, 39, 2, NONE);
        check.same("overdue, but not asked", x.asked(0, 2, 6), 0);
    }

    /** Machine 0 with part 3, each with two tasks overdue from day 2 on, and one that is not. */
    private static HangarBook late() {
        HangarBook x = new HangarBook();
        x.place(0, 0, 1);
        x.thing(0, 0, 0, 0, 0);
        x.thing(3, 1, 0, 0, 0);
        x.thing(6, 0, 0, 0, 0);
        x.task(0, 1, 0, 0, 1_000);
        x.task(1, 0, 0, 0, 1_000);
        x.task(2, 0, 0, 0, 100_000_000);
        x.task(14, 1, 0, 0, 1_000);
        x.task(15, 0, 0, 0, 1_000);
        x.put(3, 0, 0, 0);
        return x;
    }

    private static void openNumber() {
        check.promise("promise 20, the i-th from 0, or none");
        HangarBook x = late();
        int[] want = {1, 15, 3 * 16, 3 * 16 + 14};
        for (int i = 0; i < want.length; i++) {
            check.same("open(0, 2, " + i + ")", x.open(0, 2, i), want[i]);
        }
        Refusals refusals = new Refusals(check, QuestionsBoundsTest::late);
        for (int bad : new int[] {-1, 4, 5, 640, LOW, HIGH}) {
            refusals.same("open(0, 2, " + bad + ")", y -> y.open(0, 2, bad), NONE);
        }
        check.same("the first one is due on day 1", x.open(0, 1, 0), NONE);
        x.done(0, 1, 299);
        check.same("one is done", x.open(0, 2, 0), 15);
        check.same("so the last one is before", x.open(0, 2, 2), 3 * 16 + 14);
        check.same("and one less there is", x.open(0, 2, 3), NONE);
    }

    private static void openIfAsked() {
        check.promise("promise 20, asked and overdue");
        HangarBook x = late();
        x.order(0, 0, 39, 1, 15);
        check.same("a replaced one is not open", x.open(0, 2, 1), 3 * 16);
        x.rebuild(0, 0, 300);
        check.same("bound on day 2", x.open(0, 2, 0), 1);
        check.same("on day 3 it is not, and the other one is open", x.open(0, 3, 0), 15);
        check.same("then what hangs in it", x.open(0, 3, 1), 3 * 16);
        x.take(3, 301);
        check.same("until it is taken out", x.open(0, 3, 1), NONE);
    }

    private static void openMachine() {
        check.promise("promise 20, no such machine");
        HangarBook x = Books.flown();
        x.task(3, 11, 0, 0, 1_000);
        check.same("the first machine", x.open(0, LAST_DAY, 0), 0);
        check.same("the last machine", x.open(39, LAST_DAY, 0), 39 * 16 + 3);
        for (int bad : Wrong.FLEET_MACHINES) {
            flown.same("open(" + bad + ", 30,000, 0)", y -> y.open(bad, LAST_DAY, 0), NONE);
        }
    }

    private static void openDay() {
        check.promise("promise 20, no such day");
        HangarBook x = new HangarBook();
        x.thing(0, 0, 0, 0, 0);
        x.task(0, 0, 10, 0, 0);
        x.flight(0, 0, 11, 0);
        check.same("the first day", x.open(0, 0, 0), 0);
        check.same("the last day", x.open(0, LAST_DAY, 0), 0);
        for (int bad : Wrong.DAYS) {
            flown.same("open(0, " + bad + ", 0)", y -> y.open(0, bad, 0), NONE);
        }
    }

    private static void groundedMachine() {
        check.promise("promise 21, no such machine");
        HangarBook x = Books.flown();
        check.same("the first machine", x.grounded(0, 2), 0);
        check.same("the last machine", x.grounded(39, 2), 0);
        check.same("an empty one", x.grounded(1, 2), 1);
        for (int bad : Wrong.FLEET_MACHINES) {
            flown.same("grounded(" + bad + ", 2)", y -> y.grounded(bad, 2), NONE);
        }
    }

    private static void groundedDay() {
        check.promise("promise 21, no such day");
        HangarBook x = Books.flown();
        check.same("the first day", x.grounded(0, 0), 1);
        check.same("a day in between", x.grounded(0, 2), 0);
        check.same("the last day", x.grounded(0, LAST_DAY), 1);
        for (int bad : Wrong.DAYS) {
            flown.same("grounded(0, " + bad + ")", y -> y.grounded(0, bad), NONE);
        }
    }

    private static int told(int day, int t, int task) {
        return day * 640 + t * 16 + task;
    }

    private static void forecastNumber() {
        check.promise("promise 22, the i-th, or none");
        HangarBook x = late();
        int[] want = {told(2, 0, 1), told(2, 0, 15), told(2, 3, 0), told(2, 3, 14)};
        for (int i = 0; i < want.length; i++) {
            check.same("forecast(0, 0, 0, 0, " + i + ")", x.forecast(0, 0, 0, 0, i), want[i]);
        }
        Refusals refusals = new Refusals(check, QuestionsBoundsTest::late);
        for (int bad : new int[] {-1, 4, 5, 639, 640, LOW, HIGH}) {
            refusals.same("forecast(0, 0, 0, 0, " + bad + ")", y -> y.forecast(0, 0, 0, 0, bad), NONE);
        }
        allThingsAndTasks();
    }

    /** As many as can hang in one machine, each with as many tasks as there can be. */
    private static void allThingsAndTasks() {
        HangarBook x = new HangarBook();
        x.place(1, 0, 0);
        for (int p = 0; p < 4; p++) {
            x.place(0, p, 0);
        }
        x.thing(0, 1, 0, 0, 0);
        x.thing(1, 0, 0, 0, 0);
        x.put(1, 0, 0, 1);
        for (int t = 2; t < 40; t++) {
            x.thing(t, 0, 0, 0, 0);
            x.put(t, (t + 2) / 4, (t + 2) % 4, t);
        }
        for (int task = 0; task < 16; task++) {
            x.task(task, 0, 0, 0, 1_000);
        }
        for (int i = 0; i < 39 * 16; i++) {
            if (i < 100 || i > 39 * 16 - 100) {
                check.same("forecast " + i, x.forecast(0, 0, 0, 0, i), told(2, i / 16 + 1, i % 16));
            }
        }
        check.same("no more", x.forecast(0, 0, 0, 0, 39 * 16), NONE);
        check.same("the last one open", x.open(0, 2, 39 * 16 - 1), 39 * 16 + 15);
        check.same("no more open", x.open(0, 2, 39 * 16), NONE);
    }

    private static void forecastIfAsked() {
        check.promise("promise 22, asked at the end of a day in a machine's tree");
        HangarBook x = late();
        x.order(0, 0, 39, 1, 15);
        check.same("an order's task", x.forecast(0, 1, 0, 0, 0), told(2, 0, 1));
        check.same("a replaced one is left out", x.forecast(0, 1, 0, 0, 1), told(2, 3, 0));
        x.rebuild(0, 0, 199);
        check.same("rebuilt, the other one is asked", x.forecast(0, 1, 0, 0, 0), told(2, 0, 15));
        x.take(3, 198);
        check.same("what is taken out is none of it", x.forecast(0, 1, 0, 0, 1), NONE);
        check.same("on the day before all is as it was", x.forecast(0, 0, 0, 0, 1), told(2, 3, 0));
    }

    private static void forecastMachine() {
        check.promise("promise 22, no such machine");
        HangarBook x = Books.flown();
        x.task(3, 11, 0, 0, 1_000);
        check.same("the first machine", x.forecast(0, 2, 0, 0, 0), told(6, 2, 1));
        check.same("the last machine", x.forecast(39, 2, 0, 0, 0), told(11, 39, 3));
        for (int bad : Wrong.FLEET_MACHINES) {
            flown.same("forecast(" + bad + ", 2, 0, 0, 0)", y -> y.forecast(bad, 2, 0, 0, 0), NONE);
        }
    }

    private static void forecastDay() {
        check.promise("promise 22, no such day");
        HangarBook x = Books.flown();
        check.same("the first day", x.forecast(0, 0, 0, 0, 0), told(6, 0, 0));
        check.same("the last day", x.forecast(0, LAST_DAY, 0, 0, 0), told(LAST_DAY, 0, 0));
        for (int bad : Wrong.DAYS) {
            flown.same("forecast(0, " + bad + ", 0, 0, 0)", y -> y.forecast(0, bad, 0, 0, 0), NONE);
        }
    }

    private static void forecastAmounts() {
        check.promise("promise 22, amounts are not 0 .. 1,440");
        HangarBook x = Books.alone();
        x.task(0, 0, 14_400, 0, 0);
        x.task(1, 0, 0, 14_400, 0);
        check.same("the most minutes, no cycles", x.forecast(0, 5, 1_440, 0, 0), told(16, 0, 0));
        check.same("nothing else then", x.forecast(0, 5, 1_440, 0, 1), NONE);
        check.same("the most cycles, no minutes", x.forecast(0, 5, 0, 1_440, 0), told(16, 0, 1));
        check.same("nothing else but that", x.forecast(0, 5, 0, 1_440, 1), NONE);
        check.same("the most of both", x.forecast(0, 5, 1_440, 1_440, 1), told(16, 0, 1));
        for (int bad : NO_PACES) {
            flown.same("forecast(0, 2, " + bad + ", 0, 0)", y -> y.forecast(0, 2, bad, 0, 0), NONE);
            flown.same("forecast(0, 2, 0, " + bad + ", 0)", y -> y.forecast(0, 2, 0, bad, 0), NONE);
        }
    }

    private static void forecastFirstDay() {
        check.promise("promise 22, from that day on, flown from the next one on");
        HangarBook x = Books.alone();
        x.task(0, 0, 100, 0, 0);
        x.flight(0, 500, 100, 0);
        x.flight(0, 600, 1, 0);
        check.same("due, so overdue the next day", x.forecast(0, 5, 1, 0, 0), told(6, 0, 0));
        check.same("overdue that very day", x.forecast(0, 6, 1, 0, 0), told(6, 0, 0));
        check.same("overdue before, told by the day asked", x.forecast(0, 9, 1, 0, 0), told(9, 0, 0));
        int[][] paces = {{99, 6}, {100, 6}, {101, 5}, {50, 7}, {51, 6}, {1, 105}};
        for (int[] row : paces) {
            check.same("100 left at " + row[0], x.forecast(0, 4, row[0], 0, 0), told(row[1], 0, 0));
        }
    }

    private static void forecastLastDay() {
        check.promise("promise 22, not up to day 40,000");
        for (int day : new int[] {0, 29_999, LAST_DAY}) {
            HangarBook x = Books.alone();
            x.task(0, 0, 39_999 - day, 0, 0);
            x.task(1, 0, 40_000 - day, 0, 0);
            x.task(2, 0, 0, 39_999 - day, 0);
            x.task(3, 0, 0, 40_000 - day, 0);
            x.task(4, 0, 0, 0, 39_999_000);
            x.task(5, 0, 0, 0, 40_000_000);
            for (int i = 0; i < 3; i++) {
                check.same("on day 40,000, " + i, x.forecast(0, day, 1, 1, i), told(40_000, 0, 2 * i));
            }
            check.same("on day 40,001", x.forecast(0, day, 1, 1, 3), NONE);
        }
    }

    private static void forecastNever() {
        check.promise("promise 22, those that never would");
        HangarBook x = Books.alone();
        x.task(0, 0, 1, 0, 0);
        x.task(1, 0, 0, 1, 0);
        x.task(2, 0, 0, 0, 0);
        check.same("nothing flown", x.forecast(0, 5, 0, 0, 0), NONE);
        check.same("minutes flown", x.forecast(0, 5, 1, 0, 0), told(7, 0, 0));
        check.same("only those", x.forecast(0, 5, 1, 0, 1), NONE);
        check.same("cycles flown", x.forecast(0, 5, 0, 1, 0), told(7, 0, 1));
        check.same("those alone", x.forecast(0, 5, 0, 1, 1), NONE);
        check.same("no limit, both flown", x.forecast(0, 5, 1, 1, 2), NONE);
        x.flight(0, 500, 2, 0);
        check.same("overdue though nothing is flown", x.forecast(0, 5, 0, 0, 0), told(5, 0, 0));
    }

    private static void forecastSameDay() {
        check.promise("promise 22, as early ones by thing, then task");
        HangarBook x = late();
        x.task(2, 0, 0, 0, 0);
        x.task(3, 1, 0, 0, 0);
        check.same("all on one day", x.forecast(0, 0, 0, 0, 0), told(2, 0, 1));
        x.task(14, 1, 0, 0, 1);
        x.task(0, 1, 1, 0, 0);
        check.same("an earlier day comes before an earlier thing", x.forecast(0, 0, 1_440, 0, 0), told(1, 3, 0));
        check.same("then by task", x.forecast(0, 0, 1_440, 0, 1), told(2, 0, 1));
        check.same("and by task", x.forecast(0, 0, 1_440, 0, 2), told(2, 0, 15));
        check.same("and no more", x.forecast(0, 0, 1_440, 0, 3), NONE);
    }

    private static void forecastLaterEntries() {
        check.promise("promise 22, entries of later days count for nothing");
        HangarBook x = Books.alone();
        x.task(0, 0, 100, 0, 0);
        x.order(0, 0, 39, 0, NONE);
        x.flight(0, 600, 50, 0);
        check.same("a flight at the next day's first point", x.forecast(0, 5, 10, 0, 0), told(16, 0, 0));
        x.flight(0, 599, 20, 0);
        check.same("a flight at the day's last point", x.forecast(0, 5, 10, 0, 0), told(14, 0, 0));
        x.done(0, 0, 600);
        check.same("a doing on the next day", x.forecast(0, 5, 10, 0, 0), told(14, 0, 0));
        x.done(0, 0, 599);
        check.same("a doing at the day's last point", x.forecast(0, 5, 10, 0, 0), told(16, 0, 0));
        x.concede(0, 0, 600, 40, 0);
        check.same("a concession on the next day", x.forecast(0, 5, 10, 0, 0), told(16, 0, 0));
        x.concede(0, 0, 599, 30, 0);
        check.same("a concession at the day's last point", x.forecast(0, 5, 10, 0, 0), told(19, 0, 0));
        x.rebuild(0, 0, 600);
        check.same("a rebuilding on the next day", x.forecast(0, 5, 10, 0, 0), told(19, 0, 0));
        x.rebuild(0, 0, 599);
        check.same("a rebuilding at the day's last point", x.forecast(0, 5, 10, 0, 0), NONE);
    }
}
