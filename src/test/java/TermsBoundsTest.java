/** The bounds that the document's terms name: just inside, just outside, and nothing changed by what is refused. */
public final class TermsBoundsTest {
    private static final int NONE = HangarBook.NONE;
    private static final int LAST_DAY = Books.LAST_DAY;
    private static final int LAST_POINT = Books.LAST_POINT;

    private static final Check check = new Check();

    public static void main(String[] args) {
        kindsAndPlaces();
        placesAtFirst();
        things();
        machines();
        daysAndPoints();
        entriesInTheirNumbers();
        oneMoveAtAPoint();
        otherEntriesAtOnePoint();
        putWhatHangsNowhere();
        putNotInItsOwnTree();
        putWhatFits();
        putIntoAnEmptyPlace();
        putNoDeeperThanFour();
        putWithWhatHangsInIt();
        putOverTheFirstAndTheLastThing();
        takeWhatHangs();
        possibleByPointsNotByNumbers();
        whatHangsInAThingGoesWithIt();
        atAPointItsMovesHaveHappened();
        machineOfAThing();
        countersUpToAPoint();
        countersOfTheMachineThen();
        countersOfLateEntries();
        daysBelowZero();
        mostOfAllCounters();
        check.end();
    }

    private static void kindsAndPlaces() {
        check.promise("terms, kinds are 0 .. 11, each with places 0 .. 3");
        for (int kind = 0; kind < 12; kind++) {
            int child = (kind + 1) % 12;
            for (int p = 0; p < 4; p++) {
                HangarBook x = new HangarBook();
                check.yes("place(" + kind + ", " + p + ")", x.place(kind, p, child));
                x.thing(0, kind, 0, 0, 0);
                x.thing(1, child, 0, 0, 0);
                for (int other = 0; other < 4; other++) {
                    if (other != p) {
                        int wrong = other;
                        check.badState("not in place " + other, () -> x.put(1, 0, wrong, 5));
                    }
                }
                check.badState("not the other way round", () -> x.put(0, 1, 0, 5));
                check.same("in place " + p, x.put(1, 0, p, 5), 0);
            }
        }
    }

    private static void placesAtFirst() {
        check.promise("terms, at first none may hang in a place");
        HangarBook x = new HangarBook();
        for (int kind = 0; kind < 12; kind++) {
            x.thing(kind, kind, 0, 0, 0);
            check.same("no place of kind " + kind + " lacks anything", x.grounded(kind, 0), 0);
        }
        for (int kind = 0; kind < 12; kind++) {
            for (int p = 0; p < 4; p++) {
                int parent = kind;
                int place = p;
                check.badState("in place " + p + " of kind " + kind, () -> x.put((parent + 1) % 12, parent, place, 5));
            }
        }
        check.same("no entry came of it", x.count(0), 0);
    }

    private static void things() {
        check.promise("terms, things are 0 .. 39");
        HangarBook x = new HangarBook();
        for (int t = 0; t < 40; t++) {
            check.yes("thing(" + t + ")", x.thing(t, t % 12, 3 * t + 1, 5 * t + 2, 7 * t));
        }
        check.same("all of them", x.count(2), 40);
        for (int t = 0; t < 40; t++) {
            check.same("minutes of " + t, x.counter(t, 0, 0), 3 * t + 1);
            check.same("cycles of " + t, x.counter(t, 1, 0), 5 * t + 2);
            check.same("days of " + t, x.counter(t, 2, 300), 300 - 7 * t);
        }
        check.no("no more", x.thing(40, 0, 0, 0, 0));
        check.same("still all of them", x.count(2), 40);
    }

    private static void machines() {
        check.promise("terms, a machine is of a kind that is no place's kind");
        HangarBook x = new HangarBook();
        x.place(11, 3, 5);
        x.place(0, 0, 6);
        x.place(0, 0, 7);
        x.place(1, 0, 8);
        x.place(1, 0, NONE);
        x.place(2, 0, 2);
        for (int kind = 0; kind < 12; kind++) {
            x.thing(kind, kind, 0, 0, 0);
        }
        for (int kind = 0; kind < 12; kind++) {
            boolean part = kind == 5 || kind == 7 || kind == 2;
            check.same("the machine of a thing of kind " + kind, x.where(kind, 0, 2), part ? NONE : kind);
            check.same("is it grounded", x.grounded(kind, 0), part ? NONE : kind == 0 || kind == 11 ? 1 : 0);
        }
    }

    private static void daysAndPoints() {
        check.promise("terms, a point is a day and a number 0 .. 99");
        HangarBook x = Books.alone();
        x.flight(0, 0, 1, 0);
        x.flight(0, 99, 10, 0);
        x.flight(0, 100, 100, 0);
        x.flight(0, 2_999_999, 1_000, 0);
        x.flight(0, 3_000_000, 10_000, 0);
        x.flight(0, LAST_POINT, 100_000, 0);
        int[][] want = {{0, 11}, {1, 111}, {29_998, 111}, {29_999, 1_111}, {30_000, 111_111}};
        for (int[] row : want) {
            check.same("minutes on day " + row[0], x.counter(0, 0, row[0]), row[1]);
        }
        check.promise("terms, points are in order by day, then number");
        HangarBook y = Books.fleet();
        y.put(2, 0, 0, 199);
        check.badState("day 1, number 98 is before day 1, number 99", () -> y.take(2, 198));
        check.badState("day 0, number 99 is before day 1, number 99", () -> y.take(2, 99));
        check.same("day 2, number 0 is after day 1, number 99", y.take(2, 200), 1);
        check.same("between them", y.where(2, 199, 0), 0);
        check.same("after them", y.where(2, 200, 0), NONE);
    }

    private static void entriesInTheirNumbers() {
        check.promise("terms, entries are numbered in the order in which they were made");
        HangarBook x = Books.fleet();
        check.same("flight", x.flight(0, 900, 1, 1), 0);
        check.same("put, before it", x.put(2, 0, 0, 100), 1);
        check.same("take", x.take(2, 800), 2);
        check.same("done", x.done(0, 0, 700), 3);
        check.same("concede", x.concede(0, 0, 600, 1, 1), 4);
        check.same("rebuild", x.rebuild(0, 0, 500), 5);
        x.strike(5);
        check.same("a struck one stays in its number", x.flight(0, 400, 1, 1), 6);
        check.same("entries", x.count(0), 7);
        check.same("living ones", x.count(1), 6);
        x.strike(3);
        check.same("nothing is left of it", x.due(0, 0, 2, 9), 6);
        check.badArgument("not even to strike", () -> x.strike(3));
    }

    private static void oneMoveAtAPoint() {
        check.promise("terms, no two living moves have the same point");
        Refusals refusals = new Refusals(check, Books::flown);
        refusals.badState("put and put", y -> y.put(3, 1, 0, 100));
        refusals.badState("take and put", y -> y.put(3, 1, 0, 300));
        refusals.badState("put and take", y -> y.take(2, 110));
        refusals.badState("take and take", y -> y.take(2, 300));
        HangarBook x = Books.flown();
        check.same("a point later", x.put(3, 1, 0, 301), 10);
        check.same("a point earlier", x.take(2, 299), 11);
        x.strike(11);
        check.same("a struck one's", x.put(4, 3, 1, 400), 12);
        check.same("is free", x.take(2, 299), 13);
    }

    private static void otherEntriesAtOnePoint() {
        check.promise("terms, only moves are alone at their points");
        HangarBook x = Books.fleet();
        for (int i = 0; i < 2; i++) {
            check.same("flight", x.flight(0, 500, 1, 1), 5 * i);
            check.same("done", x.done(0, 0, 500), 5 * i + 1);
            check.same("concede", x.concede(0, 0, 500, 1, 1), 5 * i + 2);
            check.same("rebuild", x.rebuild(0, 0, 500), 5 * i + 3);
            check.same("flight of another one", x.flight(1, 500, 1, 1), 5 * i + 4);
        }
        check.same("a move among them", x.put(2, 0, 0, 500), 10);
        check.same("a flight at a move's point", x.flight(0, 500, 1, 1), 11);
        check.badState("a second move", () -> x.put(3, 0, 3, 500));
    }

    private static void putWhatHangsNowhere() {
        check.promise("terms, what is put hangs nowhere");
        Refusals refusals = new Refusals(check, Books::flown);
        refusals.badState("it hangs in another thing", y -> y.put(2, 1, 0, 200));
        refusals.badState("it hangs there already", y -> y.put(2, 0, 0, 200));
        refusals.badState("the point before it is taken", y -> y.put(4, 3, 1, 299));
        refusals.badState("it will be put later", y -> y.put(2, 1, 0, 99));
        check.same("the point after it was taken", Books.flown().put(4, 3, 1, 301), 10);
        HangarBook x = Books.flown();
        x.take(2, 200);
        check.same("taken, it may be put again", x.put(2, 1, 0, 201), 11);
    }

    private static void putNotInItsOwnTree() {
        check.promise("terms, what is put is not of the tree of its parent from above");
        Refusals refusals = new Refusals(check, TermsBoundsTest::threeInOneAnother);
        refusals.badState("the parent itself", y -> y.put(0, 0, 1, 40));
        refusals.badState("the parent itself, which holds something", y -> y.put(3, 3, 0, 40));
        refusals.badState("what the parent hangs in", y -> y.put(0, 1, 1, 40));
        refusals.badState("what that hangs in", y -> y.put(0, 2, 0, 40));
        HangarBook x = threeInOneAnother();
        check.same("its own parts are no bar", x.put(0, 4, 0, 40), 2);
        HangarBook y = threeInOneAnother();
        y.take(1, 40);
        check.same("what the parent hung in before", y.put(0, 2, 0, 50), 3);
        check.same("it lies below then", y.where(0, 50, 3), 2);
        HangarBook side = threeInOneAnother();
        side.put(3, 0, 1, 40);
        check.same("another one of the same tree, once taken out", side.take(3, 50), 3);
        check.same("may go below its sister", side.put(3, 2, 0, 60), 4);
    }

    /** Thing 2 hangs in thing 1, and that in thing 0. */
    private static HangarBook threeInOneAnother() {
        HangarBook x = Books.chain();
        x.put(1, 0, 0, 20);
        x.put(2, 1, 0, 30);
        return x;
    }

    private static void putWhatFits() {
        check.promise("terms, what is put fits the place");
        Refusals refusals = new Refusals(check, Books::flown);
        refusals.badState("another kind", y -> y.put(4, 1, 0, 400));
        refusals.badState("a machine", y -> y.put(1, 39, 0, 400));
        refusals.badState("a place for none ever", y -> y.put(3, 1, 1, 400));
        refusals.badState("another place for none ever", y -> y.put(3, 1, 2, 400));
        check.same("its kind", Books.flown().put(3, 1, 0, 400), 10);
        check.same("its kind in the other place", Books.flown().put(3, 1, 3, 400), 10);
    }

    private static void putIntoAnEmptyPlace() {
        check.promise("terms, the place is empty");
        Refusals refusals = new Refusals(check, Books::flown);
        refusals.badState("something hangs there", y -> y.put(3, 0, 0, 400));
        refusals.badState("at the next point", y -> y.put(3, 0, 0, 101));
        refusals.badState("something will be put there", y -> y.put(3, 0, 0, 99));
        HangarBook x = Books.flown();
        x.take(2, 400);
        check.same("taken out a point before", x.put(3, 0, 0, 401), 11);
        check.same("it hangs there", x.at(0, 0, 401), 3);
        HangarBook y = Books.fleet();
        y.put(2, 0, 0, 98);
        check.badState("not yet empty", () -> y.put(3, 0, 0, 100));
        y.take(2, 99);
        check.same("empty from the take on", y.put(3, 0, 0, 100), 2);
        check.badState("the take is needed for it", () -> y.strike(1));
    }

    /** Machine 39 holds 0, that holds 1, that holds 2, and that holds 3: which lies 4 deep. */
    private static HangarBook fourDeep() {
        HangarBook x = Books.chain();
        x.put(0, 39, 0, 10);
        x.put(1, 0, 0, 20);
        x.put(2, 1, 0, 30);
        x.put(3, 2, 0, 40);
        return x;
    }

    private static void putNoDeeperThanFour() {
        check.promise("terms, what is put comes to lie no deeper than 4");
        HangarBook x = fourDeep();
        int[] things = {39, 0, 1, 2, 3};
        for (int deep = 0; deep < 5; deep++) {
            check.same(deep + " deep", x.where(things[deep], 40, 3), deep);
        }
        Refusals refusals = new Refusals(check, TermsBoundsTest::fourDeep);
        refusals.badState("5 deep", y -> y.put(4, 3, 0, 50));
        refusals.badState("5 deep, in the other place", y -> y.put(4, 3, 1, 50));
        refusals.badState("5 deep later, as the one it hangs in goes down", y -> y.put(4, 3, 0, 35));
        refusals.badState("5 deep later, though put before all", y -> y.put(4, 3, 0, 5));
        check.same("4 deep beside it", x.put(4, 2, 1, 50), 4);
        check.same("4 deep", x.where(4, 50, 3), 4);
    }

    private static void putWithWhatHangsInIt() {
        check.promise("terms, nothing in what is put comes to lie deeper than 4");
        for (int above = 0; above < 4; above++) {
            for (int below = 0; below < 5; below++) {
                HangarBook x = Books.chain();
                for (int t = 1; t <= above; t++) {
                    x.put(t, t - 1, 0, t);
                }
                for (int i = 0; i < below; i++) {
                    x.put(6 + i, 5 + i, i % 2, 20 + i);
                }
                int parent = above;
                String call = below + " levels put below " + above;
                if (above + 1 + below <= 4) {
                    check.same(call, x.put(5, parent, 1, 30), above + below);
                    check.same("the lowest", x.where(5 + below, 30, 3), above + 1 + below);
                } else {
                    check.badState(call, () -> x.put(5, parent, 1, 30));
                    check.same("none came of it", x.count(0), above + below);
                    check.same("the lowest stays", x.where(5 + below, 30, 3), below);
                }
            }
        }
    }

    /** The lowest one may be any thing, the first and the last ones too. */
    private static void putOverTheFirstAndTheLastThing() {
        check.promise("terms, nothing in what is put comes to lie deeper than 4, whichever thing it is");
        for (int lowest : new int[] {0, 39}) {
            HangarBook x = new HangarBook();
            x.place(0, 0, 0);
            x.thing(lowest, 0, 0, 0, 0);
            for (int t = 1; t < 6; t++) {
                x.thing(t, 0, 0, 0, 0);
            }
            x.put(lowest, 1, 0, 1);
            for (int t = 1; t < 4; t++) {
                check.same(lowest + " comes to lie " + (t + 1) + " deep", x.put(t, t + 1, 0, 10 + t), t);
                check.same("it lies so", x.where(lowest, 10 + t, 3), t + 1);
            }
            check.badState(lowest + " would lie 5 deep", () -> x.put(4, 5, 0, 20));
        }
    }

    private static void takeWhatHangs() {
        check.promise("terms, what is taken hangs");
        Refusals refusals = new Refusals(check, Books::flown);
        refusals.badState("it never hung", y -> y.take(3, 400));
        refusals.badState("a machine", y -> y.take(0, 400));
        refusals.badState("it was taken before", y -> y.take(4, 301));
        refusals.badState("it will be taken later", y -> y.take(4, 299));
        refusals.badState("it will be put later", y -> y.take(2, 99));
        check.same("the point after it was put", Books.flown().take(2, 101), 10);
    }

    private static void possibleByPointsNotByNumbers() {
        check.promise("terms, going through all living moves by their points");
        HangarBook x = Books.fleet();
        x.put(3, 0, 0, 500);
        check.same("entered later, put and taken before", x.put(2, 0, 3, 100), 1);
        check.same("out", x.take(2, 200), 2);
        check.same("in again", x.put(2, 1, 0, 300), 3);
        check.badState("in while in", () -> x.put(2, 1, 3, 250));
        check.badState("out while out", () -> x.take(2, 250));
        check.badState("the take is needed", () -> x.strike(2));
        check.badState("the put is needed", () -> x.strike(1));
        check.fine("the last put is not", () -> x.strike(3));
        check.fine("then the take is not", () -> x.strike(2));
        check.same("what is left", x.where(2, LAST_POINT, 1), 3);
    }

    private static void whatHangsInAThingGoesWithIt() {
        check.promise("terms, what hangs in a thing goes with it");
        HangarBook x = fourDeep();
        x.take(1, 50);
        check.same("in the machine before", x.where(3, 49, 2), 39);
        check.same("out with it", x.where(3, 50, 2), NONE);
        check.same("still in its parent", x.where(3, 50, 0), 2);
        check.same("2 deep", x.where(3, 50, 3), 2);
        x.take(0, 60);
        x.put(1, 39, 0, 70);
        check.same("in with it", x.where(3, 70, 2), 39);
        check.same("3 deep", x.where(3, 70, 3), 3);
    }

    private static void atAPointItsMovesHaveHappened() {
        check.promise("terms, at a point moves at it have happened");
        HangarBook x = Books.fleet();
        x.put(2, 0, 0, 100);
        x.take(2, 200);
        int[][] want = {{99, NONE}, {100, 2}, {101, 2}, {199, 2}, {200, NONE}, {201, NONE}};
        for (int[] row : want) {
            check.same("at " + row[0], x.at(0, 0, row[0]), row[1]);
            check.same("where, at " + row[0], x.where(2, row[0], 0), row[1] == NONE ? NONE : 0);
            int flight = x.flight(0, row[0], 5, 1);
            check.same("a flight at " + row[0], x.counter(2, 0, 3), row[1] == NONE ? 2_000 : 2_005);
            x.strike(flight);
        }
        HangarBook late = Books.fleet();
        late.flight(0, 100, 5, 1);
        late.flight(0, 200, 50, 1);
        late.done(2, 1, 100);
        check.same("it hangs nowhere yet", late.counter(2, 0, 3), 2_000);
        late.put(2, 0, 0, 100);
        check.same("a put entered after the flight at its point", late.counter(2, 0, 3), 2_055);
        check.same("and after the doing at its point", late.due(2, 1, 0, 3), 2_115);
        late.take(2, 200);
        check.same("a take entered after the flight at its point", late.counter(2, 0, 3), 2_005);
    }

    private static void machineOfAThing() {
        check.promise("terms, a thing's machine is what hangs nowhere above it, if that is a machine");
        HangarBook x = fourDeep();
        for (int t = 0; t < 4; t++) {
            check.same("from " + (t + 1) + " deep", x.where(t, 40, 2), 39);
            check.same("while a part is the highest", x.where(t, 9, 2), NONE);
        }
        check.same("a machine's own", x.where(39, 40, 2), 39);
        check.same("a part that hangs nowhere", x.where(4, 40, 2), NONE);
        HangarBook parts = Books.chain();
        parts.put(0, 1, 0, 10);
        check.same("in a part that hangs nowhere", parts.where(0, 10, 2), NONE);
    }

    private static void countersUpToAPoint() {
        check.promise("terms, flights up to that point, itself too; at a day: at its last point");
        HangarBook x = Books.alone();
        x.task(0, 0, 1_000, 0, 0);
        x.flight(0, 499, 1, 2);
        x.flight(0, 500, 10, 20);
        x.flight(0, 599, 100, 200);
        x.flight(0, 600, 1_000, 2_000);
        check.same("minutes on the day before", x.counter(0, 0, 4), 1);
        check.same("minutes on the day", x.counter(0, 0, 5), 111);
        check.same("cycles on the day", x.counter(0, 1, 5), 222);
        check.same("minutes on the day after", x.counter(0, 0, 6), 1_111);
        int doing = x.done(0, 0, 499);
        check.same("done at a flight's point", x.due(0, 0, 0, 5), 1_001);
        x.strike(doing);
        x.done(0, 0, 598);
        check.same("done before a flight's point", x.due(0, 0, 0, 5), 1_011);
    }

    private static void countersOfTheMachineThen() {
        check.promise("terms, flights of the machine that is the thing's at the flight's point");
        HangarBook x = fourDeep();
        x.thing(20, 11, 0, 0, 0);
        x.flight(39, 39, 1, 0);
        x.flight(39, 40, 10, 0);
        x.take(0, 50);
        x.flight(39, 50, 100, 0);
        x.put(0, 20, 0, 60);
        x.flight(39, 60, 1_000, 0);
        x.flight(20, 60, 10_000, 0);
        check.same("4 deep, from its put on", x.counter(3, 0, 0), 10_010);
        check.same("1 deep", x.counter(0, 0, 0), 10_011);
        check.same("the machine before", x.counter(39, 0, 0), 1_111);
        check.same("the machine after", x.counter(20, 0, 0), 10_000);
        check.same("what never hung", x.counter(9, 0, 0), 0);
    }

    private static void countersOfLateEntries() {
        check.promise("terms, entries that come late or are struck count as if they had come in time");
        HangarBook x = Books.fleet();
        x.put(2, 0, 0, 500);
        x.flight(0, 600, 10, 1);
        check.same("asked before", x.counter(2, 0, 9), 2_010);
        x.flight(0, 550, 100, 1);
        check.same("a late flight", x.counter(2, 0, 9), 2_110);
        x.take(2, 560);
        check.same("a late take", x.counter(2, 0, 9), 2_100);
        x.flight(0, 100, 1_000, 1);
        check.same("a flight before it hung", x.counter(2, 0, 9), 2_100);
        x.strike(3);
        check.same("the take struck", x.counter(2, 0, 9), 2_110);
        x.strike(2);
        check.same("the late flight struck", x.counter(2, 0, 9), 2_010);
        check.yes("a thing that comes last", x.thing(20, 1, 7, 8, 9));
        check.same("has its minutes at once", x.counter(20, 0, 9), 7);
        check.same("and its cycles", x.counter(20, 1, 9), 8);
        check.same("and its due points", x.due(20, 1, 0, 9), 117);
    }

    private static void daysBelowZero() {
        check.promise("terms, these may be below 0");
        HangarBook x = new HangarBook();
        x.thing(0, 0, 0, 0, 30_000);
        check.same("the least", x.counter(0, 2, 0), -30_000);
        check.same("the day before its first one", x.counter(0, 2, 29_999), -1);
        check.same("its first one", x.counter(0, 2, 30_000), 0);
        x.task(0, 0, 0, 0, 1_000);
        x.done(0, 0, 0);
        check.same("due from below 0", x.due(0, 0, 2, 0), -29_999);
        check.same("reached the next day", x.asked(0, 0, 1), 1);
        check.same("overdue a day later", x.asked(0, 0, 2), 2);
    }

    private static void mostOfAllCounters() {
        check.promise("terms, the most minutes, cycles and flights");
        HangarBook x = new HangarBook();
        x.thing(0, 0, 1_000_000, 1_000_000, 0);
        x.task(0, 0, 100_000, 100_000, 100_000_500);
        x.life(0, 1_000_000, 1_000_000);
        for (int i = 0; i < 198; i++) {
            x.flight(0, LAST_POINT, 100_000, 100_000);
        }
        check.same("minutes", x.counter(0, 0, LAST_DAY), 20_800_000);
        check.same("cycles", x.counter(0, 1, LAST_DAY), 20_800_000);
        x.done(0, 0, LAST_POINT);
        x.concede(0, 0, LAST_POINT, 9_999, 100_020_000);
        check.same("due by minutes", x.due(0, 0, 0, LAST_DAY), 20_909_999);
        check.same("due by cycles", x.due(0, 0, 1, LAST_DAY), 20_910_000);
        check.same("due by days", x.due(0, 0, 2, LAST_DAY), 140_000);
        check.same("overdue in 10,000 days by minutes", x.forecast(0, LAST_DAY, 11, 0, 0), 40_000 * 640);
        check.same("in 10,001 days by cycles", x.forecast(0, LAST_DAY, 0, 11, 0), NONE);
        check.same("grounded by its life", x.grounded(0, LAST_DAY), 1);
    }
}
