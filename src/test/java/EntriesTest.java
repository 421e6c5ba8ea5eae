/** Promises 7 to 13: flight, put, take, done, concede, rebuild and strike. */
public final class EntriesTest {
    private static final int NONE = HangarBook.NONE;
    private static final int LOW = Wrong.LOW;
    private static final int HIGH = Wrong.HIGH;
    private static final int LAST_POINT = 3_000_099;

    private static final Check check = new Check();

    public static void main(String[] args) {
        flight();
        put();
        putWhatCannotHang();
        putTooDeep();
        putLate();
        take();
        takeLate();
        done();
        concede();
        rebuild();
        strike();
        strikeMoves();
        fullBook();
        wrongArgumentsInAFullBook();
        check.end();
    }

    /** Machines 0 and 1 of kind 0 hold kind 1 (things 2, 3), which holds kind 2 (things 4, 5). */
    private static HangarBook fleet() {
        HangarBook x = new HangarBook();
        x.place(0, 0, 1);
        x.place(0, 3, 1);
        x.place(1, 1, 2);
        for (int t = 0; t < 6; t++) {
            x.thing(t, t / 2, 0, 0, 0);
        }
        x.task(0, 0, 100, 10, 5000);
        x.order(0, 0, 39, 0, NONE);
        return x;
    }

    private static void flight() {
        check.promise("promise 7");
        HangarBook x = fleet();
        for (int bad : Wrong.THINGS) {
            check.badArgument("flight(machine " + bad + ")", () -> x.flight(bad, 0, 1, 1));
        }
        check.badArgument("flight of a part", () -> x.flight(2, 0, 1, 1));
        for (int bad : Wrong.POINTS) {
            check.badArgument("flight(point " + bad + ")", () -> x.flight(0, bad, 1, 1));
        }
        for (int bad : new int[] {-1, 100_001, LOW, HIGH}) {
            check.badArgument("flight(minutes " + bad + ")", () -> x.flight(0, 0, bad, 1));
            check.badArgument("flight(cycles " + bad + ")", () -> x.flight(0, 0, 1, bad));
        }
        check.same("nothing came of it", x.count(0), 0);
        check.same("the first point, nothing flown", x.flight(0, 0, 0, 0), 0);
        check.same("the last point, the most flown", x.flight(0, LAST_POINT, 100_000, 100_000), 1);
        check.same("the same again", x.flight(0, LAST_POINT, 100_000, 99_999), 2);
        check.same("minutes", x.counter(0, 0, 30_000), 200_000);
        check.same("cycles", x.counter(0, 1, 30_000), 199_999);
        check.same("the day before", x.counter(0, 0, 29_999), 0);
        check.same("another machine", x.counter(1, 0, 30_000), 0);
    }

    private static void put() {
        check.promise("promise 8");
        HangarBook x = fleet();
        for (int bad : Wrong.THINGS) {
            check.badArgument("put(t " + bad + ")", () -> x.put(bad, 0, 0, 0));
            check.badArgument("put(parent " + bad + ")", () -> x.put(2, bad, 0, 0));
        }
        for (int bad : Wrong.PLACES) {
            check.badArgument("put(p " + bad + ")", () -> x.put(2, 0, bad, 0));
        }
        for (int bad : Wrong.POINTS) {
            check.badArgument("put(point " + bad + ")", () -> x.put(2, 0, 0, bad));
        }
        check.same("nothing came of it", x.count(0), 0);
        check.same("put", x.put(2, 0, 3, LAST_POINT), 0);
        check.same("where it is", x.where(2, LAST_POINT, 0), 0);
        check.same("its place", x.where(2, LAST_POINT, 1), 3);
        check.same("not before", x.where(2, LAST_POINT - 1, 0), NONE);
        check.badState("a point that a move has", () -> x.put(3, 1, 0, LAST_POINT));
        check.same("a flight may share a move's point", x.flight(0, LAST_POINT, 1, 1), 1);
        check.same("a move may share a flight's point", x.flight(0, 77, 1, 1), 2);
        check.same("put at a flight's point", x.put(3, 1, 0, 77), 3);
    }

    private static void putWhatCannotHang() {
        HangarBook x = fleet();
        check.badState("a kind that does not fit", () -> x.put(4, 0, 0, 10));
        check.badState("a place for none ever", () -> x.put(2, 0, 1, 10));
        check.badState("a machine", () -> x.put(0, 1, 0, 10));
        x.put(2, 0, 0, 20);
        check.badState("what hangs", () -> x.put(2, 1, 0, 30));
        check.badState("what hangs, into the same place", () -> x.put(2, 0, 0, 30));
        check.badState("a full place", () -> x.put(3, 0, 0, 30));
        check.same("a refused one has no number", x.put(3, 0, 3, 30), 1);
        HangarBook ring = new HangarBook();
        ring.place(0, 0, 0);
        ring.place(0, 1, 0);
        for (int t = 0; t < 3; t++) {
            ring.thing(t, 0, 0, 0, 0);
        }
        check.badState("in itself", () -> ring.put(0, 0, 0, 10));
        ring.put(0, 1, 0, 10);
        check.badState("in what hangs in it", () -> ring.put(1, 0, 0, 20));
        ring.put(1, 2, 1, 20);
        check.badState("in what hangs in what hangs in it", () -> ring.put(2, 0, 1, 30));
        check.same("all the same", ring.count(0), 2);
    }

    private static HangarBook chain() {
        HangarBook x = new HangarBook();
        x.place(0, 0, 0);
        x.place(0, 1, 0);
        for (int t = 0; t < 10; t++) {
            x.thing(t, 0, 0, 0, 0);
        }
        return x;
    }

    private static void putTooDeep() {
        HangarBook down = chain();
        for (int t = 1; t <= 4; t++) {
            check.same("down", down.put(t, t - 1, 0, t), t - 1);
        }
        check.same("4 deep", down.where(4, 4, 3), 4);
        check.badState("5 deep", () -> down.put(5, 4, 0, 5));
        HangarBook both = chain();
        both.put(1, 0, 0, 10);
        both.put(2, 1, 0, 20);
        both.put(4, 3, 1, 30);
        both.put(5, 4, 0, 40);
        both.put(6, 4, 1, 50);
        check.badState("what hangs in it would lie 5 deep", () -> both.put(3, 2, 1, 60));
        check.same("one higher it may", both.put(3, 1, 1, 60), 5);
        check.same("4 deep with what it hangs in", both.where(6, 60, 3), 4);
        check.badState("late, and the last move carries it 5 deep", () -> both.put(7, 6, 0, 55));
        check.badState("late, before all", () -> both.put(8, 5, 0, 0));
        check.same("late, no deeper than the others", both.put(8, 3, 0, 0), 6);
        HangarBook up = chain();
        for (int t = 0; t < 4; t++) {
            up.put(t, t + 1, 0, t);
        }
        check.badState("the lowest one would lie 5 deep", () -> up.put(4, 5, 0, 10));
    }

    private static void putLate() {
        HangarBook x = fleet();
        x.put(2, 0, 0, 100);
        check.badState("what will be put later", () -> x.put(2, 1, 0, 50));
        check.badState("a place that will be filled later", () -> x.put(3, 0, 0, 50));
        check.same("late, but no matter", x.put(4, 2, 1, 50), 1);
        check.same("it went along", x.where(4, 100, 2), 0);
        check.same("not before", x.where(4, 99, 2), NONE);
        x.take(2, 200);
        check.same("between out and nothing", x.put(3, 0, 0, 300), 3);
        check.badState("between, but the place is needed", () -> x.put(2, 0, 0, 250));
        check.same("between, elsewhere", x.put(2, 1, 3, 250), 4);
        check.same("where it is then", x.where(2, 300, 0), 1);
    }

    private static void take() {
        check.promise("promise 9");
        HangarBook x = fleet();
        for (int bad : Wrong.THINGS) {
            check.badArgument("take(t " + bad + ")", () -> x.take(bad, 0));
        }
        for (int bad : Wrong.POINTS) {
            check.badArgument("take(point " + bad + ")", () -> x.take(2, bad));
        }
        check.badState("what hangs nowhere", () -> x.take(2, 0));
        x.put(2, 0, 0, 10);
        check.badState("a point that a move has", () -> x.take(2, 10));
        check.badState("before it hangs", () -> x.take(2, 9));
        check.same("taken", x.take(2, 11), 1);
        check.same("it hung before", x.where(2, 10, 0), 0);
        check.same("hangs nowhere", x.where(2, 11, 0), NONE);
        check.same("has no place", x.where(2, 11, 1), NONE);
        check.same("the place is empty", x.at(0, 0, 11), NONE);
        check.badState("twice", () -> x.take(2, 12));
        check.same("put again", x.put(2, 0, 0, 12), 2);
        check.same("taken at the last point", x.take(2, LAST_POINT), 3);
    }

    private static void takeLate() {
        HangarBook x = fleet();
        x.put(2, 0, 0, 100);
        x.take(2, 300);
        check.badState("what will be taken later", () -> x.take(2, 200));
        x.put(2, 1, 0, 400);
        check.badState("even if it is put again", () -> x.take(2, 200));
        check.same("after all, late ones too", x.take(2, 500), 3);
        check.same("a parent goes with what is in it", x.put(4, 2, 1, 50), 4);
        check.same("still in it", x.where(4, 450, 0), 2);
        check.same("with it in the other machine", x.where(4, 450, 2), 1);
        check.same("out of its parent while that hangs", x.take(4, 420), 5);
        check.same("alone", x.where(4, 450, 3), 0);
    }

    private static void done() {
        check.promise("promise 10");
        HangarBook x = fleet();
        for (int bad : Wrong.THINGS) {
            check.badArgument("done(t " + bad + ")", () -> x.done(bad, 0, 0));
        }
        for (int bad : new int[] {NONE, 1, 16, LOW, HIGH}) {
            check.badArgument("done(task " + bad + ")", () -> x.done(0, bad, 0));
        }
        for (int bad : Wrong.POINTS) {
            check.badArgument("done(point " + bad + ")", () -> x.done(0, 0, bad));
        }
        check.same("nothing came of it", x.count(0), 0);
        check.same("done", x.done(0, 0, 300), 0);
        check.same("done at the last point", x.done(0, 0, LAST_POINT), 1);
        check.same("a task of another kind", x.done(2, 0, 300), 2);
        check.same("from the doing on", x.due(0, 0, 2, 3), 8);
        check.same("not before", x.due(0, 0, 2, 2), 5);
        check.same("another thing", x.due(1, 0, 2, 3), 5);
        check.same("the task for a thing of another kind", x.due(2, 0, 2, 3), 8);
    }

    private static void concede() {
        check.promise("promise 11");
        HangarBook x = fleet();
        for (int bad : Wrong.THINGS) {
            check.badArgument("concede(t " + bad + ")", () -> x.concede(bad, 0, 0, 1, 1));
        }
        for (int bad : new int[] {NONE, 1, 16, LOW, HIGH}) {
            check.badArgument("concede(task " + bad + ")", () -> x.concede(0, bad, 0, 1, 1));
        }
        for (int bad : Wrong.POINTS) {
            check.badArgument("concede(point " + bad + ")", () -> x.concede(0, 0, bad, 1, 1));
        }
        for (int bad : new int[] {-1, 10_001, LOW, HIGH}) {
            check.badArgument("concede(minutes " + bad + ")", () -> x.concede(0, 0, 0, bad, 1));
        }
        for (int bad : new int[] {-1, -10_001, 10_001 * 10_001, LOW, HIGH}) {
            check.badArgument("concede(more " + bad + ")", () -> x.concede(0, 0, 0, 1, bad));
        }
        check.same("nothing came of it", x.count(0), 0);
        check.same("the most of all", x.concede(0, 0, 300, 10_000, 10_001 * 10_001 - 1), 0);
        check.same("later by minutes", x.due(0, 0, 0, 3), 10_100);
        check.same("later by cycles", x.due(0, 0, 1, 3), 10_010);
        check.same("later by days", x.due(0, 0, 2, 3), 10_005);
        check.same("not before", x.due(0, 0, 2, 2), 5);
        check.same("cycles and days", x.concede(1, 0, LAST_POINT, 1, 2 * 10_001 + 3), 1);
        check.same("minutes of it", x.due(1, 0, 0, 30_000), 101);
        check.same("cycles of it", x.due(1, 0, 1, 30_000), 12);
        check.same("days of it", x.due(1, 0, 2, 30_000), 8);
    }

    private static void rebuild() {
        check.promise("promise 12");
        HangarBook x = fleet();
        for (int bad : Wrong.THINGS) {
            check.badArgument("rebuild(t " + bad + ")", () -> x.rebuild(bad, 0, 0));
        }
        for (int bad : new int[] {NONE, 1, 8, LOW, HIGH}) {
            check.badArgument("rebuild(order " + bad + ")", () -> x.rebuild(0, bad, 0));
        }
        for (int bad : Wrong.POINTS) {
            check.badArgument("rebuild(point " + bad + ")", () -> x.rebuild(0, 0, bad));
        }
        check.same("nothing came of it", x.count(0), 0);
        check.same("bound", x.asked(0, 0, 3), 1);
        check.same("rebuilt", x.rebuild(0, 0, 399), 0);
        check.same("bound no more", x.asked(0, 0, 3), 0);
        check.same("bound before", x.asked(0, 0, 2), 1);
        check.same("another thing stays bound", x.asked(1, 0, 3), 1);
        check.same("twice", x.rebuild(0, 0, LAST_POINT), 1);
        check.same("what the order is not for", x.rebuild(2, 0, 0), 2);
    }

    private static void strike() {
        check.promise("promise 13");
        HangarBook x = fleet();
        x.flight(0, 100, 60, 1);
        x.done(0, 0, 200);
        x.concede(0, 0, 300, 7, 0);
        x.rebuild(0, 0, 400);
        for (int bad : new int[] {-1, 4, 200, LOW, HIGH}) {
            check.badArgument("strike(" + bad + ")", () -> x.strike(bad));
        }
        check.same("before", x.due(0, 0, 0, 4), 167);
        check.fine("a concession", () -> x.strike(2));
        check.same("the concession is gone", x.due(0, 0, 0, 4), 160);
        check.fine("a flight", () -> x.strike(0));
        check.same("the flight is gone", x.counter(0, 0, 4), 0);
        check.same("the doing had another counter", x.due(0, 0, 0, 4), 100);
        check.fine("a doing", () -> x.strike(1));
        check.same("the doing is gone", x.due(0, 0, 2, 4), 5);
        check.fine("a rebuilding", () -> x.strike(3));
        check.same("the rebuilding is gone", x.asked(0, 0, 4), 1);
        check.badArgument("a struck one", () -> x.strike(2));
        check.same("numbers stay", x.count(0), 4);
        check.same("none lives", x.count(1), 0);
        check.same("the next number", x.flight(0, 100, 1, 1), 4);
    }

    private static void strikeMoves() {
        HangarBook x = fleet();
        x.put(2, 0, 0, 100);
        x.take(2, 200);
        x.put(3, 0, 0, 300);
        check.badState("a put whose take lives", () -> x.strike(0));
        check.badState("a take whose place is filled again", () -> x.strike(1));
        check.same("all live", x.count(1), 3);
        check.same("as it was", x.where(2, 150, 0), 0);
        check.same("as it was, then", x.where(2, 250, 0), NONE);
        check.fine("the last put", () -> x.strike(2));
        check.same("gone", x.at(0, 0, 300), NONE);
        check.fine("the take now too", () -> x.strike(1));
        check.same("it hangs on", x.at(0, 0, 300), 2);
        check.same("a struck move's point is free", x.take(2, 200), 3);
        check.badState("the put is needed again", () -> x.strike(0));
        HangarBook deep = chain();
        for (int t = 1; t <= 4; t++) {
            deep.put(t, t - 1, 0, t * 10);
        }
        deep.take(4, 50);
        deep.put(5, 3, 0, 60);
        check.badState("a take that made a place empty", () -> deep.strike(4));
        check.fine("a put in the middle of a chain", () -> deep.strike(1));
        check.same("the chain is two", deep.where(3, 60, 3), 1);
    }

    private static void fullBook() {
        check.promise("promises 7 to 12, a full book");
        HangarBook x = fleet();
        for (int i = 0; i < 198; i++) {
            check.same("flight", x.flight(0, i, 1, 1), i);
        }
        x.strike(5);
        check.same("put", x.put(2, 0, 0, 9), 198);
        check.same("done", x.done(0, 0, 9), 199);
        check.badState("flight 201", () -> x.flight(0, 0, 1, 1));
        check.badState("put 201", () -> x.put(3, 1, 0, 10));
        check.badState("take 201", () -> x.take(2, 10));
        check.badState("done 201", () -> x.done(0, 0, 10));
        check.badState("concede 201", () -> x.concede(0, 0, 10, 1, 1));
        check.badState("rebuild 201", () -> x.rebuild(0, 0, 10));
        check.same("entries", x.count(0), 200);
        check.same("living", x.count(1), 199);
        check.fine("the last one struck", () -> x.strike(199));
        check.badState("no room by that", () -> x.done(0, 0, 10));
        check.same("entries still", x.count(0), 200);
        check.same("living ones", x.count(1), 198);
        check.same("flown by the machine", x.counter(0, 0, 1), 197);
        check.same("flown by the part, from its put on", x.counter(2, 0, 1), 189);
    }

    private static void wrongArgumentsInAFullBook() {
        HangarBook x = fleet();
        for (int i = 0; i < 200; i++) {
            x.flight(0, i, 1, 1);
        }
        check.badArgument("flight of a part", () -> x.flight(2, 0, 1, 1));
        check.badArgument("put nowhere", () -> x.put(2, 0, 4, 0));
        check.badArgument("take nothing", () -> x.take(9, 0));
        check.badArgument("done never", () -> x.done(0, 0, -1));
        check.badArgument("concede too much", () -> x.concede(0, 0, 0, 10_001, 0));
        check.badArgument("rebuild by none", () -> x.rebuild(0, 1, 0));
        check.badArgument("strike none", () -> x.strike(200));
    }
}
