import java.util.Random;
import java.util.function.Supplier;

/** Mixed runs of calls, the same ones every time, on HangarBook and on PlainBook: both must answer alike. */
public final class PlainBookTest {
    private static final int RUNS = 200;
    private static final int CALLS = 512;
    private static final int[] ODD = {-1, -2, 4, 8, 12, 16, 40, 200, 1441, 10_001, 30_001, 100_001,
        1_000_001, 3_000_100, Integer.MIN_VALUE, Integer.MAX_VALUE};

    private final Random random;
    private final HangarBook book = new HangarBook();
    private final PlainBook plain = new PlainBook();
    private final int kinds;
    private final int things;
    private final int tasks;
    private final int days;
    /** What the run means to set up, so that most of its calls hit something. */
    private final int[][] layout = new int[12][4];
    private final int[] kindOfThing = new int[40];
    private final int[] kindOfTask = new int[16];
    private int clock = 0;
    private String call = "";
    private String bookSaid = "";
    private String plainSaid = "";

    private PlainBookTest(int seed) {
        random = new Random(seed);
        kinds = 2 + random.nextInt(4);
        things = 4 + random.nextInt(seed % 5 == 0 ? 36 : 12);
        tasks = 1 + random.nextInt(6);
        days = seed % 7 == 0 ? 30_001 : 5 + random.nextInt(60);
        int width = 1 + random.nextInt(1 + random.nextInt(4));
        for (int kind = 0; kind < 12; kind++) {
            for (int p = 0; p < 4; p++) {
                layout[kind][p] = p < width && random.nextInt(kind + 1) < 2 ? partBelow(kind) : -1;
            }
        }
        for (int t = 0; t < things; t++) {
            kindOfThing[t] = t < 2 ? 0 : random.nextInt(kinds);
        }
        for (int task = 0; task < tasks; task++) {
            kindOfTask[task] = random.nextInt(kinds);
        }
    }

    /** Kind 0 is the machines'; a part may hold parts of its own kind, so that trees grow deep. */
    private int partBelow(int kind) {
        int least = Math.max(kind, 1);
        return least >= kinds ? -1 : least + random.nextInt(kinds - least);
    }

    public static void main(String[] args) {
        Check check = new Check();
        check.promise("promises 1 to 22");
        for (int seed = 0; seed < RUNS; seed++) {
            PlainBookTest test = new PlainBookTest(seed);
            for (int i = 0; i < CALLS; i++) {
                test.next(i);
                check.sameText("run " + seed + ", call " + i + ", " + test.call, test.bookSaid, test.plainSaid);
            }
        }
        check.end();
    }

    private void next(int i) {
        int placed = kinds * 4;
        if (i < placed) {
            place(i / 4, i % 4);
        } else if (i < placed + things) {
            thing(i - placed);
        } else if (i < placed + things + tasks) {
            task(i - placed - things);
        } else {
            int pick = random.nextInt(100);
            if (pick < 8) {
                setUp(pick);
            } else if (pick < 55) {
                entry(pick);
            } else {
                ask(pick);
            }
        }
    }

    private void setUp(int pick) {
        switch (pick) {
            case 0 -> place(odd(random.nextInt(12)), odd(random.nextInt(4)));
            case 1 -> thing(random.nextInt(40));
            case 2, 3 -> task(odd(random.nextInt(tasks)));
            case 4, 5, 6 -> order();
            default -> life();
        }
    }

    private void entry(int pick) {
        if (pick < 20) {
            flight();
        } else if (pick < 32) {
            put();
        } else if (pick < 37) {
            take();
        } else if (pick < 43) {
            done();
        } else if (pick < 48) {
            concede();
        } else if (pick < 51) {
            rebuild();
        } else {
            strike();
        }
    }

    private void ask(int pick) {
        switch (pick % 9) {
            case 0 -> count();
            case 1 -> where();
            case 2 -> at();
            case 3 -> counter();
            case 4 -> due();
            case 5 -> asked();
            case 6 -> open();
            case 7 -> grounded();
            default -> forecast();
        }
    }

    private void place(int a, int b) {
        int c = a >= 0 && a < 12 && b >= 0 && b < 4 ? odd(layout[a][b]) : 0;
        both("place " + a + " " + b + " " + c, () -> book.place(a, b, c), () -> plain.place(a, b, c));
    }

    private void thing(int t) {
        int b = odd(kindOfThing[t]);
        int c = odd(random.nextInt(100));
        int d = odd(random.nextInt(20));
        int e = odd(random.nextInt(3) == 0 ? random.nextInt(days) : 0);
        both("thing " + t + " " + b + " " + c + " " + d + " " + e,
                () -> book.thing(t, b, c, d, e), () -> plain.thing(t, b, c, d, e));
    }

    private void task(int task) {
        int b = odd(task >= 0 && task < 16 ? kindOfTask[task] : 0);
        int c = odd(random.nextInt(3) * random.nextInt(200));
        int d = odd(random.nextInt(3) * random.nextInt(15));
        int e = odd(random.nextInt(3) * random.nextInt(20) * 1000 + random.nextInt(502));
        both("task " + task + " " + b + " " + c + " " + d + " " + e,
                () -> book.task(task, b, c, d, e), () -> plain.task(task, b, c, d, e));
    }

    private void order() {
        int a = odd(random.nextInt(8));
        int d = odd(random.nextInt(tasks));
        int b = odd(random.nextInt(4) > 0 && d >= 0 && d < 16 ? kindOfTask[d] : random.nextInt(kinds));
        int first = random.nextInt(things);
        int c = odd(first * 40 + first - 1 + random.nextInt(41 - first));
        int e = odd(random.nextInt(tasks + 2) - 1);
        both("order " + a + " " + b + " " + c + " " + d + " " + e,
                () -> book.order(a, b, c, d, e), () -> plain.order(a, b, c, d, e));
    }

    private void life() {
        int a = odd(random.nextInt(kinds + 1));
        int b = odd(random.nextInt(2) * random.nextInt(1000));
        int c = odd(random.nextInt(2) * random.nextInt(100));
        both("life " + a + " " + b + " " + c, () -> book.life(a, b, c), () -> plain.life(a, b, c));
    }

    private void flight() {
        int a = odd(machine());
        int b = point();
        int c = odd(random.nextInt(120));
        int d = odd(random.nextInt(6));
        both("flight " + a + " " + b + " " + c + " " + d,
                () -> book.flight(a, b, c, d), () -> plain.flight(a, b, c, d));
    }

    private void put() {
        int b = point();
        int a = odd(someThing());
        int c = odd(someThing());
        int d = odd(random.nextInt(4));
        for (int i = 0; i < 60 && !seemsFree(a, c, d, b); i++) {
            a = someThing();
            c = someThing();
            d = random.nextInt(4);
        }
        put(a, c, d, b);
    }

    private boolean seemsFree(int t, int parent, int p, int point) {
        return plain.count(2) > 0 && p >= 0 && p < 4 && parent >= 0 && parent < things && t >= 0 && t < things
                && layout[kindOfThing[parent]][p] == kindOfThing[t]
                && plain.where(t, point, 0) == -1 && plain.at(parent, p, point) == -1;
    }

    private void put(int a, int c, int d, int b) {
        both("put " + a + " " + c + " " + d + " " + b, () -> book.put(a, c, d, b), () -> plain.put(a, c, d, b));
    }

    private void take() {
        int b = point();
        int t = someThing();
        for (int i = 0; i < 60 && plain.where(t, b, 0) == -1; i++) {
            t = someThing();
        }
        int a = odd(t);
        both("take " + a + " " + b, () -> book.take(a, b), () -> plain.take(a, b));
    }

    private void done() {
        int b = odd(random.nextInt(tasks));
        int a = odd(thingFor(b));
        int c = point();
        both("done " + a + " " + b + " " + c, () -> book.done(a, b, c), () -> plain.done(a, b, c));
    }

    private void concede() {
        int b = odd(random.nextInt(tasks));
        int a = odd(thingFor(b));
        int c = point();
        int d = odd(random.nextInt(50));
        int e = odd(random.nextInt(5) * 10_001 + random.nextInt(10));
        both("concede " + a + " " + b + " " + c + " " + d + " " + e,
                () -> book.concede(a, b, c, d, e), () -> plain.concede(a, b, c, d, e));
    }

    private void rebuild() {
        int a = odd(someThing());
        int b = odd(random.nextInt(8));
        int c = point();
        both("rebuild " + a + " " + b + " " + c, () -> book.rebuild(a, b, c), () -> plain.rebuild(a, b, c));
    }

    private void strike() {
        int a = odd(random.nextInt(plain.count(0) + 1));
        both("strike " + a, () -> {
            book.strike(a);
            return "struck";
        }, () -> {
            plain.strike(a);
            return "struck";
        });
    }

    private void count() {
        int a = odd(random.nextInt(3));
        both("count " + a, () -> book.count(a), () -> plain.count(a));
    }

    private void where() {
        int a = odd(someThing());
        int b = point();
        int c = odd(random.nextInt(4));
        both("where " + a + " " + b + " " + c, () -> book.where(a, b, c), () -> plain.where(a, b, c));
    }

    private void at() {
        int a = odd(someThing());
        int b = odd(random.nextInt(4));
        int c = point();
        both("at " + a + " " + b + " " + c, () -> book.at(a, b, c), () -> plain.at(a, b, c));
    }

    private void counter() {
        int a = odd(someThing());
        int b = odd(random.nextInt(3));
        int c = someDay();
        both("counter " + a + " " + b + " " + c, () -> book.counter(a, b, c), () -> plain.counter(a, b, c));
    }

    private void due() {
        int b = odd(random.nextInt(tasks));
        int a = odd(thingFor(b));
        int c = odd(random.nextInt(3));
        int d = someDay();
        both("due " + a + " " + b + " " + c + " " + d, () -> book.due(a, b, c, d), () -> plain.due(a, b, c, d));
    }

    private void asked() {
        int b = odd(random.nextInt(tasks));
        int a = odd(thingFor(b));
        int c = someDay();
        both("asked " + a + " " + b + " " + c, () -> book.asked(a, b, c), () -> plain.asked(a, b, c));
    }

    private void open() {
        int a = odd(machine());
        int b = someDay();
        int c = odd(random.nextInt(4));
        both("open " + a + " " + b + " " + c, () -> book.open(a, b, c), () -> plain.open(a, b, c));
    }

    private void grounded() {
        int a = odd(machine());
        int b = someDay();
        both("grounded " + a + " " + b, () -> book.grounded(a, b), () -> plain.grounded(a, b));
    }

    private void forecast() {
        int a = odd(machine());
        int b = someDay();
        int c = odd(random.nextInt(60));
        int d = odd(random.nextInt(4));
        int e = odd(random.nextInt(5));
        both("forecast " + a + " " + b + " " + c + " " + d + " " + e,
                () -> book.forecast(a, b, c, d, e), () -> plain.forecast(a, b, c, d, e));
    }

    private void both(String name, Supplier<Object> ofBook, Supplier<Object> ofPlain) {
        call = name;
        bookSaid = said(ofBook);
        plainSaid = said(ofPlain);
    }

    private static String said(Supplier<Object> run) {
        try {
            return String.valueOf(run.get());
        } catch (RuntimeException e) {
            return "throws." + e.getClass().getSimpleName();
        }
    }

    /** Now and then something else in a good argument's stead. */
    private int odd(int good) {
        return random.nextInt(60) == 0 ? ODD[random.nextInt(ODD.length)] : good;
    }

    /** Mostly today or before, where the entries are. */
    private int someDay() {
        return odd(random.nextInt(3) == 0 ? random.nextInt(days) : Math.max(clock / 100 - random.nextInt(3), 0));
    }

    private int someThing() {
        return random.nextInt(things);
    }

    /** Mostly a thing that the task is for, where there is one. */
    private int thingFor(int task) {
        int t = someThing();
        for (int i = 0; i < 10 && task >= 0 && task < 16 && kindOfThing[t] != kindOfTask[task]; i++) {
            t = someThing();
        }
        return t;
    }

    /** Mostly a thing that is a machine, where there is one. */
    private int machine() {
        int first = someThing();
        for (int i = 0; i < things; i++) {
            int t = (first + i) % things;
            if (plain.where(t, 0, 2) == t) {
                return t;
            }
        }
        return first;
    }

    /** Mostly the clock's, which goes on, else anywhere; then few numbers in a day, so that points meet. */
    private int point() {
        clock = Math.min(clock + random.nextInt(days), days * 100 - 1);
        if (random.nextInt(4) > 0) {
            return odd(clock);
        }
        return odd(random.nextInt(days) * 100 + random.nextInt(6) * 19 + random.nextInt(2) * 4);
    }
}
