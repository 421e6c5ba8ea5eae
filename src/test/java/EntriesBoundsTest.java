import java.util.function.ToIntFunction;

/** Promises 7 to 13, bound by bound: just inside it, just outside it, and nothing changed by what is refused. */
public final class EntriesBoundsTest {
    private static final int NONE = HangarBook.NONE;
    private static final int LOW = Wrong.LOW;
    private static final int HIGH = Wrong.HIGH;
    private static final int LAST_POINT = Books.LAST_POINT;

    private static final Check check = new Check();
    private static final Refusals flown = new Refusals(check, Books::flown);
    private static final Refusals full = new Refusals(check, Books::full);

    public static void main(String[] args) {
        flightThing();
        flightMachine();
        flightPoint();
        flightAmounts();
        putThings();
        putPlace();
        putPoint();
        putWhereAMoveIs();
        takeThing();
        takePoint();
        takeWhereAMoveIs();
        doneThing();
        doneTask();
        donePoint();
        concedeThing();
        concedeTask();
        concedePoint();
        concedeMinutes();
        concedeCyclesAndDays();
        rebuildThing();
        rebuildOrder();
        rebuildPoint();
        twoHundredOfEach();
        struckOnesCountAmongTwoHundred();
        refusedOnesDoNotCountAmongTwoHundred();
        strikeNumber();
        strikeTwice();
        strikeMoves();
        strikeWhatIsNoMove();
        check.end();
    }

    private static void flightThing() {
        check.promise("promise 7, no such thing");
        HangarBook x = Books.flown();
        check.same("the first thing", x.flight(0, 400, 7, 1), 10);
        check.same("the last thing", x.flight(39, 400, 8, 1), 11);
        check.same("the first one flew", x.counter(0, 0, 4), 112);
        check.same("the last one flew", x.counter(39, 0, 4), 78);
        for (int bad : Wrong.FLEET_THINGS) {
            flown.badArgument("flight(machine " + bad + ")", y -> y.flight(bad, 140, 1, 1));
        }
    }

    private static void flightMachine() {
        check.promise("promise 7, it is no machine");
        HangarBook x = new HangarBook();
        x.place(5, 3, 11);
        for (int kind = 0; kind < 12; kind++) {
            x.thing(kind, kind, 0, 0, 0);
        }
        for (int t = 0; t < 11; t++) {
            check.same("no place's kind " + t, x.flight(t, 0, 1, 1), t);
        }
        check.badArgument("a place's kind", () -> x.flight(11, 0, 1, 1));
        flown.badArgument("a part that hangs in a machine", y -> y.flight(2, 140, 1, 1));
        flown.badArgument("a part that hangs nowhere", y -> y.flight(3, 140, 1, 1));
        flown.badArgument("a part of a part", y -> y.flight(5, 140, 1, 1));
    }

    private static void flightPoint() {
        check.promise("promise 7, no such point");
        HangarBook x = Books.fleet();
        check.same("the first point", x.flight(0, 0, 7, 1), 0);
        check.same("the last point", x.flight(0, LAST_POINT, 8, 1), 1);
        check.same("on the first day", x.counter(0, 0, 0), 7);
        check.same("on the last day", x.counter(0, 0, 30_000), 15);
        for (int bad : Wrong.POINTS) {
            flown.badArgument("flight(point " + bad + ")", y -> y.flight(0, bad, 1, 1));
        }
    }

    private static void flightAmounts() {
        check.promise("promise 7, an amount is not as said");
        HangarBook x = Books.alone();
        check.same("no minutes, the most cycles", x.flight(0, 0, 0, 100_000), 0);
        check.same("the most minutes, no cycles", x.flight(0, 100, 100_000, 0), 1);
        check.same("no minutes", x.counter(0, 0, 0), 0);
        check.same("the most cycles", x.counter(0, 1, 0), 100_000);
        check.same("the most minutes", x.counter(0, 0, 1), 100_000);
        check.same("no cycles", x.counter(0, 1, 1), 100_000);
        for (int bad : new int[] {-1, 100_001, LOW, HIGH}) {
            flown.badArgument("flight(minutes " + bad + ")", y -> y.flight(0, 140, bad, 1));
            flown.badArgument("flight(cycles " + bad + ")", y -> y.flight(0, 140, 1, bad));
        }
    }

    private static void putThings() {
        check.promise("promise 8, one of both is no thing");
        HangarBook x = new HangarBook();
        x.place(0, 0, 1);
        x.thing(0, 0, 0, 0, 0);
        x.thing(39, 1, 0, 0, 0);
        check.same("the last thing in the first", x.put(39, 0, 0, 0), 0);
        HangarBook turned = new HangarBook();
        turned.place(0, 0, 1);
        turned.thing(39, 0, 0, 0, 0);
        turned.thing(0, 1, 0, 0, 0);
        check.same("the first thing in the last", turned.put(0, 39, 0, 0), 0);
        for (int bad : Wrong.FLEET_THINGS) {
            flown.badArgument("put(t " + bad + ")", y -> y.put(bad, 1, 0, 140));
            flown.badArgument("put(parent " + bad + ")", y -> y.put(3, bad, 0, 140));
            flown.badArgument("put(both " + bad + ")", y -> y.put(bad, bad, 0, 140));
        }
    }

    private static void putPlace() {
        check.promise("promise 8, no such place");
        HangarBook x = Books.fleet();
        check.same("place 0", x.put(2, 0, 0, 0), 0);
        check.same("place 3", x.put(3, 0, 3, 1), 1);
        check.same("in place 0", x.at(0, 0, 1), 2);
        check.same("in place 3", x.at(0, 3, 1), 3);
        for (int bad : Wrong.PLACES) {
            flown.badArgument("put(p " + bad + ")", y -> y.put(3, 1, bad, 140));
        }
        flown.badState("a place for none ever is a place", y -> y.put(3, 1, 1, 140));
    }

    private static void putPoint() {
        check.promise("promise 8, no such point");
        HangarBook x = Books.fleet();
        check.same("the first point", x.put(2, 0, 0, 0), 0);
        check.same("the last point", x.put(3, 0, 3, LAST_POINT), 1);
        check.same("at the first point", x.where(2, 0, 0), 0);
        check.same("before the last point", x.where(3, LAST_POINT - 1, 0), NONE);
        check.same("at the last point", x.where(3, LAST_POINT, 0), 0);
        for (int bad : Wrong.POINTS) {
            flown.badArgument("put(point " + bad + ")", y -> y.put(3, 1, 0, bad));
        }
    }

    private static void putWhereAMoveIs() {
        check.promise("promise 8, a living move has the point");
        for (int free : new int[] {99, 101, 299, 301, 150, 200, 250, 260}) {
            check.same("put at " + free, Books.flown().put(3, 1, 0, free), 10);
        }
        flown.badState("a put has the point", y -> y.put(3, 1, 0, 100));
        flown.badState("a take has the point", y -> y.put(3, 1, 0, 300));
        HangarBook x = Books.flown();
        x.strike(6);
        check.same("a struck take's point", x.put(3, 1, 0, 300), 10);
        x.strike(10);
        check.same("a struck put's point", x.put(3, 1, 3, 300), 11);
    }

    private static void takeThing() {
        check.promise("promise 9, no such thing");
        HangarBook x = new HangarBook();
        x.place(0, 0, 1);
        x.place(0, 1, 1);
        x.thing(5, 0, 0, 0, 0);
        x.thing(0, 1, 0, 0, 0);
        x.thing(39, 1, 0, 0, 0);
        x.put(0, 5, 0, 0);
        x.put(39, 5, 1, 1);
        check.same("the first thing", x.take(0, 2), 2);
        check.same("the last thing", x.take(39, 3), 3);
        check.same("the first one hangs nowhere", x.where(0, 3, 0), NONE);
        check.same("the last one hangs nowhere", x.where(39, 3, 0), NONE);
        for (int bad : Wrong.FLEET_THINGS) {
            flown.badArgument("take(" + bad + ")", y -> y.take(bad, 400));
        }
    }

    private static void takePoint() {
        check.promise("promise 9, no such point");
        HangarBook x = Books.fleet();
        x.put(2, 0, 0, 0);
        check.same("the last point", x.take(2, LAST_POINT), 1);
        check.same("it hung before", x.where(2, LAST_POINT - 1, 0), 0);
        check.same("at the last point it doesn't", x.where(2, LAST_POINT, 0), NONE);
        check.badState("the first point is one, though a move has it", () -> x.take(2, 0));
        for (int bad : Wrong.POINTS) {
            flown.badArgument("take(point " + bad + ")", y -> y.take(2, bad));
        }
    }

    private static void takeWhereAMoveIs() {
        check.promise("promise 9, a living move has the point");
        for (int free : new int[] {111, 150, 200, 250, 260, 299, 301}) {
            check.same("take at " + free, Books.flown().take(2, free), 10);
        }
        flown.badState("a put has the point", y -> y.take(2, 110));
        flown.badState("a take has the point", y -> y.take(2, 300));
        HangarBook x = Books.flown();
        x.strike(6);
        check.same("a struck take's point", x.take(2, 300), 10);
        x.strike(8);
        check.same("a struck put's point", x.take(5, 110), 11);
    }

    private static void doneThing() {
        check.promise("promise 10, no such thing");
        HangarBook x = Books.flown();
        x.task(3, 11, 0, 0, 4_000);
        check.same("the first thing", x.done(0, 0, 400), 10);
        check.same("the last thing", x.done(39, 3, 2_900), 11);
        check.same("done on the first", x.due(0, 0, 2, 4), 9);
        check.same("done on the last", x.due(39, 3, 2, 29), 24);
        for (int bad : Wrong.FLEET_THINGS) {
            flown.badArgument("done(t " + bad + ")", y -> y.done(bad, 0, 140));
        }
    }

    private static void doneTask() {
        check.promise("promise 10, no such task");
        HangarBook x = Books.flown();
        check.same("the first task", x.done(0, 0, 400), 10);
        check.same("the last task", x.done(4, 15, 400), 11);
        for (int bad : Wrong.FLEET_TASKS) {
            flown.badArgument("done(task " + bad + ")", y -> y.done(0, bad, 140));
        }
        x.task(2, 0, 1, 1, 0);
        check.same("a task that has come since", x.done(0, 2, 140), 12);
    }

    private static void donePoint() {
        check.promise("promise 10, no such point");
        HangarBook x = Books.fleet();
        check.same("the last point", x.done(0, 0, LAST_POINT), 0);
        check.same("before it", x.due(0, 0, 2, 29_999), 5);
        check.same("on its day", x.due(0, 0, 2, 30_000), 30_005);
        check.same("the first point", x.done(2, 1, 0), 1);
        check.same("on the first day", x.due(2, 1, 2, 0), 1);
        for (int bad : Wrong.POINTS) {
            flown.badArgument("done(point " + bad + ")", y -> y.done(0, 0, bad));
        }
    }

    private static void concedeThing() {
        check.promise("promise 11, no such thing");
        HangarBook x = Books.fleet();
        x.task(3, 11, 0, 0, 4_000);
        check.same("the first thing", x.concede(0, 0, 400, 1, 2), 0);
        check.same("the last thing", x.concede(39, 3, 400, 1, 3), 1);
        check.same("conceded to the first", x.due(0, 0, 2, 4), 7);
        check.same("conceded to the last", x.due(39, 3, 2, 4), 7);
        for (int bad : Wrong.FLEET_THINGS) {
            flown.badArgument("concede(t " + bad + ")", y -> y.concede(bad, 0, 140, 1, 1));
        }
    }

    private static void concedeTask() {
        check.promise("promise 11, no such task");
        HangarBook x = Books.fleet();
        check.same("the first task", x.concede(0, 0, 400, 1, 1), 0);
        check.same("the last task", x.concede(4, 15, 400, 1, 10_001), 1);
        check.same("of the first", x.due(0, 0, 0, 4), 101);
        check.same("of the last", x.due(4, 15, 1, 4), 61);
        for (int bad : Wrong.FLEET_TASKS) {
            flown.badArgument("concede(task " + bad + ")", y -> y.concede(0, bad, 140, 1, 1));
        }
        x.task(2, 0, 1, 1, 0);
        check.same("a task that has come since", x.concede(0, 2, 140, 1, 1), 2);
    }

    private static void concedePoint() {
        check.promise("promise 11, no such point");
        HangarBook x = Books.fleet();
        check.same("the last point", x.concede(0, 0, LAST_POINT, 1, 1), 0);
        check.same("before it", x.due(0, 0, 0, 29_999), 100);
        check.same("on its day", x.due(0, 0, 0, 30_000), 101);
        check.same("the first point", x.concede(2, 1, 0, 1, 1), 1);
        check.same("on the first day", x.due(2, 1, 0, 0), 2_111);
        for (int bad : Wrong.POINTS) {
            flown.badArgument("concede(point " + bad + ")", y -> y.concede(0, 0, bad, 1, 1));
        }
    }

    private static void concedeMinutes() {
        check.promise("promise 11, minutes are not as said");
        HangarBook x = Books.fleet();
        check.same("none", x.concede(0, 0, 0, 0, 0), 0);
        check.same("no later", x.due(0, 0, 0, 0), 100);
        check.same("the most", x.concede(1, 0, 0, 10_000, 0), 1);
        check.same("so much later", x.due(1, 0, 0, 0), 11_100);
        for (int bad : new int[] {-1, 10_001, LOW, HIGH}) {
            flown.badArgument("concede(minutes " + bad + ")", y -> y.concede(1, 0, 140, bad, 1));
        }
    }

    private static void concedeCyclesAndDays() {
        check.promise("promise 11, more = cycles * 10,001 + days");
        int[][] good = {{0, 0, 0}, {1, 0, 1}, {10_000, 0, 10_000}, {10_001, 1, 0}, {10_002, 1, 1},
            {20_001, 1, 10_000}, {100_010_000, 10_000, 0}, {100_019_999, 10_000, 9_999}, {100_020_000, 10_000, 10_000}};
        for (int[] row : good) {
            HangarBook x = Books.fleet();
            check.same("concede(more " + row[0] + ")", x.concede(0, 0, 0, 0, row[0]), 0);
            check.same("cycles of " + row[0], x.due(0, 0, 1, 0), 10 + row[1]);
            check.same("days of " + row[0], x.due(0, 0, 2, 0), 5 + row[2]);
        }
        for (int bad : new int[] {-1, -10_000, -10_001, -10_002, 100_020_001, 100_030_001, LOW, HIGH}) {
            flown.badArgument("concede(more " + bad + ")", y -> y.concede(1, 0, 140, 1, bad));
        }
    }

    private static void rebuildThing() {
        check.promise("promise 12, no such thing");
        HangarBook x = Books.fleet();
        x.task(3, 11, 0, 0, 4_000);
        x.order(1, 11, 39, 3, NONE);
        check.same("the first thing", x.rebuild(0, 0, 400), 0);
        check.same("the last thing", x.rebuild(39, 1, 400), 1);
        check.same("the first one is bound no more", x.asked(0, 0, 4), 0);
        check.same("the last one is bound no more", x.asked(39, 3, 4), 0);
        for (int bad : Wrong.FLEET_THINGS) {
            flown.badArgument("rebuild(t " + bad + ")", y -> y.rebuild(bad, 0, 140));
        }
    }

    private static void rebuildOrder() {
        check.promise("promise 12, no such order");
        HangarBook x = Books.fleet();
        check.same("the first order", x.rebuild(0, 0, 400), 0);
        check.same("the last order", x.rebuild(2, 7, 400), 1);
        check.same("by the first", x.asked(0, 0, 4), 0);
        check.same("by the last", x.asked(2, 1, 4), 0);
        for (int bad : new int[] {NONE, 1, 6, 8, LOW, HIGH}) {
            flown.badArgument("rebuild(order " + bad + ")", y -> y.rebuild(0, bad, 140));
        }
        x.order(1, 0, 39, 0, NONE);
        check.same("an order that has come since", x.rebuild(0, 1, 140), 2);
    }

    private static void rebuildPoint() {
        check.promise("promise 12, no such point");
        HangarBook x = Books.fleet();
        check.same("the last point", x.rebuild(0, 0, LAST_POINT), 0);
        check.same("bound before it", x.asked(0, 0, 29_999), 2);
        check.same("not on its day", x.asked(0, 0, 30_000), 0);
        check.same("the first point", x.rebuild(2, 7, 0), 1);
        check.same("not on the first day", x.asked(2, 1, 0), 0);
        for (int bad : Wrong.POINTS) {
            flown.badArgument("rebuild(point " + bad + ")", y -> y.rebuild(0, 0, bad));
        }
    }

    private static void twoHundredOfEach() {
        twoHundred("promise 7, there are 200", x -> x.flight(0, 5_000, 1, 1));
        twoHundred("promise 8, there are 200", x -> x.put(3, 1, 0, 5_000));
        twoHundred("promise 9, there are 200", x -> x.take(2, 5_000));
        twoHundred("promise 10, there are 200", x -> x.done(0, 0, 5_000));
        twoHundred("promise 11, there are 200", x -> x.concede(0, 0, 5_000, 1, 1));
        twoHundred("promise 12, there are 200", x -> x.rebuild(0, 0, 5_000));
    }

    private static void twoHundred(String promise, ToIntFunction<HangarBook> entry) {
        check.promise(promise);
        HangarBook x = Books.flown();
        for (int i = 10; i < 199; i++) {
            x.flight(39, i, 1, 0);
        }
        check.same("there are 199", x.count(0), 199);
        check.same("one more", entry.applyAsInt(x), 199);
        check.same("there are 200", x.count(0), 200);
        check.badState("no more", () -> entry.applyAsInt(x));
        check.same("as many as before", x.count(0), 200);
        check.same("as many living as before", x.count(1), 199);
        full.badState("in a full book", entry::applyAsInt);
    }

    private static void struckOnesCountAmongTwoHundred() {
        check.promise("promise 7, there are 200, struck ones too");
        HangarBook x = Books.alone();
        for (int i = 0; i < 200; i++) {
            check.same("flight", x.flight(0, 0, 1, 1), i);
            x.strike(i);
        }
        check.same("entries", x.count(0), 200);
        check.same("living ones", x.count(1), 0);
        check.badState("no more", () -> x.flight(0, 0, 1, 1));
        check.same("nothing is flown", x.counter(0, 0, 0), 0);
    }

    private static void refusedOnesDoNotCountAmongTwoHundred() {
        check.promise("promise 7, there are 200, refused ones not");
        HangarBook x = Books.fleet();
        x.put(2, 0, 0, 0);
        for (int i = 0; i < 100; i++) {
            check.badState("put", () -> x.put(3, 0, 0, 10));
            check.badArgument("flight", () -> x.flight(2, 10, 1, 1));
        }
        for (int i = 1; i < 200; i++) {
            check.same("flight", x.flight(0, 0, 1, 1), i);
        }
        check.badState("no more", () -> x.flight(0, 0, 1, 1));
    }

    private static void strikeNumber() {
        check.promise("promise 13, none living with that number");
        HangarBook x = Books.alone();
        check.badArgument("no entry yet", () -> x.strike(0));
        x.flight(0, 0, 5, 1);
        check.badArgument("the next number", () -> x.strike(1));
        check.fine("the first number", () -> x.strike(0));
        check.same("nothing is left of it", x.counter(0, 0, 0), 0);
        for (int bad : new int[] {-1, 9, 10, 199, 200, LOW, HIGH}) {
            flown.badArgument("strike(" + bad + ")", y -> y.strike(bad));
        }
        for (int bad : new int[] {-1, 9, 199, 200, LOW, HIGH}) {
            full.badArgument("in a full book, strike(" + bad + ")", y -> y.strike(bad));
        }
        HangarBook last = Books.alone();
        for (int i = 0; i < 200; i++) {
            last.flight(0, 0, 5, 1);
        }
        check.fine("the last number", () -> last.strike(199));
        check.same("199 flights are left", last.counter(0, 0, 0), 995);
    }

    private static void strikeTwice() {
        check.promise("promise 13, a struck one lives no more");
        for (int entry = 2; entry < 7; entry++) {
            int number = entry;
            HangarBook x = Books.flown();
            check.fine("strike(" + entry + ")", () -> x.strike(number));
            check.same("one less lives", x.count(1), 8);
            check.badArgument("strike(" + entry + ") again", () -> x.strike(number));
            check.same("no more changes", x.count(1), 8);
            check.same("its number stays", x.count(0), 10);
        }
    }

    private static void strikeMoves() {
        check.promise("promise 13, a move without which the book would not be POSSIBLE");
        flown.badState("a put whose take lives", y -> y.strike(0));
        HangarBook x = Books.flown();
        check.fine("its take first", () -> x.strike(6));
        check.same("it hangs on", x.where(4, LAST_POINT, 0), 2);
        check.fine("the put then", () -> x.strike(0));
        check.same("it never hung", x.where(4, 250, 0), NONE);
        check.fine("a put that carries others", () -> x.strike(8));
        check.same("those hang on in it", x.where(5, 110, 0), 6);
        check.same("but in no machine", x.where(5, 110, 2), NONE);
        Refusals again = new Refusals(check, EntriesBoundsTest::takenAndPutAgain);
        again.badState("a take, for its thing is put again", y -> y.strike(1));
        again.badState("a take, for its place is filled again", y -> y.strike(4));
        again.badState("a put, for it is taken", y -> y.strike(0));
        HangarBook free = takenAndPutAgain();
        check.fine("the last put of a thing", () -> free.strike(2));
        check.fine("the take before it then", () -> free.strike(1));
        check.same("it hangs on", free.where(2, LAST_POINT, 0), 0);
    }

    /** 0, 1, 2: thing 2 into machine 0, out, into machine 1; 3, 4, 5: thing 3 into and out of a place that 6 fills. */
    private static HangarBook takenAndPutAgain() {
        HangarBook x = Books.fleet();
        x.put(2, 0, 0, 100);
        x.take(2, 200);
        x.put(2, 1, 0, 240);
        x.put(3, 0, 3, 110);
        x.take(3, 210);
        x.put(6, 0, 3, 250);
        return x;
    }

    private static void strikeWhatIsNoMove() {
        check.promise("promise 13, other entries can always be struck");
        HangarBook x = Books.flown();
        for (int entry = 2; entry < 6; entry++) {
            int number = entry;
            check.fine("strike(" + entry + ")", () -> x.strike(number));
        }
        check.same("the flight is gone", x.counter(2, 0, 2), 2_000);
        check.same("the doing and the concession are gone", x.due(0, 0, 2, 2), 5);
        check.same("the rebuilding is gone", x.asked(1, 0, 2), 1);
        check.same("the moves are left", x.count(1), 5);
    }
}
