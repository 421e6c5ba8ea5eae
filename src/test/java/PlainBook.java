import java.util.ArrayList;
import java.util.Comparator;
import java.util.List;
import java.util.TreeMap;
import java.util.TreeSet;

/** The book as the document words it: nothing is kept but what was told, every answer is worked out anew. */
final class PlainBook {
    private record Thing(int kind, int minutes, int cycles, int day) {}

    private record Task(int kind, int[] interval, int tolerance) {}

    private record Order(int kind, int first, int last, int task, int replaced) {}

    private record Hanging(int parent, int place) {}

    private record Entry(char sort, int number, int thing, int other, int place, int point, int[] amounts) {}

    private final int[][] places = new int[12][4];
    private final int[][] lives = new int[12][2];
    private final TreeMap<Integer, Thing> things = new TreeMap<>();
    private final TreeMap<Integer, Task> tasks = new TreeMap<>();
    private final TreeMap<Integer, Order> orders = new TreeMap<>();
    private final List<Entry> living = new ArrayList<>();
    private int made = 0;

    PlainBook() {
        for (int[] row : places) {
            java.util.Arrays.fill(row, -1);
        }
    }

    boolean place(int kind, int p, int child) {
        if (out(kind, 0, 11) || out(p, 0, 3) || out(child, -1, 11) || !things.isEmpty()) {
            return false;
        }
        places[kind][p] = child;
        return true;
    }

    boolean thing(int t, int kind, int minutes, int cycles, int day) {
        if (out(t, 0, 39) || things.containsKey(t) || out(kind, 0, 11) || out(minutes, 0, 1_000_000)
                || out(cycles, 0, 1_000_000) || out(day, 0, 30_000)) {
            return false;
        }
        things.put(t, new Thing(kind, minutes, cycles, day));
        return true;
    }

    boolean task(int task, int kind, int minutes, int cycles, int more) {
        int days = Math.floorDiv(more, 1000);
        int tolerance = Math.floorMod(more, 1000);
        if (out(task, 0, 15) || out(kind, 0, 11) || out(minutes, 0, 100_000) || out(cycles, 0, 100_000)
                || out(days, 0, 100_000) || out(tolerance, 0, 500)) {
            return false;
        }
        if (tasks.containsKey(task) && tasks.get(task).kind != kind) {
            return false;
        }
        tasks.put(task, new Task(kind, new int[] {minutes, cycles, days}, tolerance));
        return true;
    }

    boolean order(int order, int kind, int span, int task, int replaced) {
        int first = Math.floorDiv(span, 40);
        int last = Math.floorMod(span, 40);
        if (out(order, 0, 7) || out(kind, 0, 11) || out(first, 0, 39) || first > last
                || !tasks.containsKey(task) || (replaced != -1 && !tasks.containsKey(replaced))) {
            return false;
        }
        orders.put(order, new Order(kind, first, last, task, replaced));
        return true;
    }

    boolean life(int kind, int minutes, int cycles) {
        if (out(kind, 0, 11) || out(minutes, 0, 1_000_000) || out(cycles, 0, 1_000_000)) {
            return false;
        }
        lives[kind] = new int[] {minutes, cycles};
        return true;
    }

    int flight(int machine, int point, int minutes, int cycles) {
        argument(isMachine(machine) && isPoint(point) && !out(minutes, 0, 100_000) && !out(cycles, 0, 100_000));
        return enter('F', machine, -1, -1, point, new int[] {minutes, cycles});
    }

    int put(int t, int parent, int p, int point) {
        argument(things.containsKey(t) && things.containsKey(parent) && !out(p, 0, 3) && isPoint(point));
        return enter('P', t, parent, p, point, new int[0]);
    }

    int take(int t, int point) {
        argument(things.containsKey(t) && isPoint(point));
        return enter('T', t, -1, -1, point, new int[0]);
    }

    int done(int t, int task, int point) {
        argument(things.containsKey(t) && tasks.containsKey(task) && isPoint(point));
        return enter('D', t, task, -1, point, new int[0]);
    }

    int concede(int t, int task, int point, int minutes, int more) {
        int cycles = Math.floorDiv(more, 10_001);
        argument(things.containsKey(t) && tasks.containsKey(task) && isPoint(point)
                && !out(minutes, 0, 10_000) && !out(cycles, 0, 10_000));
        return enter('C', t, task, -1, point, new int[] {minutes, cycles, Math.floorMod(more, 10_001)});
    }

    int rebuild(int t, int order, int point) {
        argument(things.containsKey(t) && orders.containsKey(order) && isPoint(point));
        return enter('R', t, order, -1, point, new int[0]);
    }

    void strike(int number) {
        Entry struck = living.stream().filter(e -> e.number == number).findFirst().orElse(null);
        argument(struck != null);
        List<Entry> rest = new ArrayList<>(living);
        rest.remove(struck);
        if (hangingAt(rest, Integer.MAX_VALUE) == null) {
            throw new IllegalStateException();
        }
        living.remove(struck);
    }

    int count(int what) {
        return what == 0 ? made : what == 1 ? living.size() : what == 2 ? things.size() : -1;
    }

    int where(int t, int point, int what) {
        if (!things.containsKey(t) || !isPoint(point)) {
            return -1;
        }
        Hanging hanging = hangingAt(living, point).get(t);
        if (what == 0 || what == 1) {
            return hanging == null ? -1 : what == 0 ? hanging.parent : hanging.place;
        }
        return what == 2 ? machineOf(t, point) : what == 3 ? above(hangingAt(living, point), t).size() : -1;
    }

    int at(int t, int p, int point) {
        if (!things.containsKey(t) || out(p, 0, 3) || !isPoint(point)) {
            return -1;
        }
        return hangsIn(hangingAt(living, point), t, p);
    }

    int counter(int t, int unit, int day) {
        return !things.containsKey(t) || out(unit, 0, 2) || out(day, 0, 30_000) ? 0 : counterAt(t, unit, day * 100 + 99);
    }

    int due(int t, int task, int unit, int day) {
        if (!things.containsKey(t) || !tasks.containsKey(task) || out(unit, 0, 2) || out(day, 0, 30_000)
                || tasks.get(task).interval[unit] == 0) {
            return -1;
        }
        return duePoint(t, task, unit, day * 100 + 99);
    }

    int asked(int t, int task, int day) {
        if (!things.containsKey(t) || !tasks.containsKey(task) || out(day, 0, 30_000) || !isAsked(t, task, day)) {
            return 0;
        }
        return isOverdue(t, task, day, day, 0, 0) ? 2 : 1;
    }

    int open(int machine, int day, int i) {
        if (!isMachine(machine) || out(day, 0, 30_000)) {
            return -1;
        }
        List<Integer> found = new ArrayList<>();
        for (int t : treeOf(machine, day)) {
            for (int task : tasks.keySet()) {
                if (asked(t, task, day) == 2) {
                    found.add(t * 16 + task);
                }
            }
        }
        return out(i, 0, found.size() - 1) ? -1 : found.get(i);
    }

    int grounded(int machine, int day) {
        if (!isMachine(machine) || out(day, 0, 30_000)) {
            return -1;
        }
        return treeOf(machine, day).stream().anyMatch(t -> grounds(t, day)) ? 1 : 0;
    }

    int forecast(int machine, int day, int minutes, int cycles, int i) {
        if (!isMachine(machine) || out(day, 0, 30_000) || out(minutes, 0, 1440) || out(cycles, 0, 1440)) {
            return -1;
        }
        TreeSet<Integer> found = new TreeSet<>();
        for (int t : treeOf(machine, day)) {
            for (int task : tasks.keySet()) {
                if (isAsked(t, task, day)) {
                    int then = overdueDay(t, task, day, minutes, cycles);
                    if (then <= 40_000) {
                        found.add(then * 640 + t * 16 + task);
                    }
                }
            }
        }
        return out(i, 0, found.size() - 1) ? -1 : new ArrayList<>(found).get(i);
    }

    /** Once overdue a task stays so, as nothing becomes of it: halve the days instead of trying each. */
    private int overdueDay(int t, int task, int day, int minutes, int cycles) {
        if (!isOverdue(t, task, day, 40_000, minutes, cycles)) {
            return 40_001;
        }
        int low = day;
        int high = 40_000;
        while (low < high) {
            int middle = (low + high) / 2;
            if (isOverdue(t, task, day, middle, minutes, cycles)) {
                high = middle;
            } else {
                low = middle + 1;
            }
        }
        return low;
    }

    private boolean isOverdue(int t, int task, int day, int then, int minutes, int cycles) {
        int[] pace = {minutes, cycles, 1};
        int point = day * 100 + 99;
        for (int unit = 0; unit < 3; unit++) {
            if (tasks.get(task).interval[unit] > 0
                    && counterAt(t, unit, point) + (then - day) * pace[unit] > duePoint(t, task, unit, point)) {
                return true;
            }
        }
        return false;
    }

    private boolean grounds(int t, int day) {
        int kind = things.get(t).kind;
        for (int unit = 0; unit < 2; unit++) {
            if (lives[kind][unit] > 0 && counter(t, unit, day) > lives[kind][unit]) {
                return true;
            }
        }
        for (int p = 0; p < 4; p++) {
            if (places[kind][p] != -1 && at(t, p, day * 100 + 99) == -1) {
                return true;
            }
        }
        return orders.keySet().stream().anyMatch(
                order -> binds(order, t, day) && asked(t, orders.get(order).task, day) == 2);
    }

    private boolean binds(int number, int t, int day) {
        Order order = orders.get(number);
        return things.get(t).kind == order.kind && !out(t, order.first, order.last)
                && living.stream().noneMatch(e -> e.sort == 'R' && e.thing == t && e.other == number
                        && e.point <= day * 100 + 99);
    }

    private boolean isAsked(int t, int task, int day) {
        if (tasks.get(task).kind != things.get(t).kind) {
            return false;
        }
        if (orders.keySet().stream().anyMatch(o -> orders.get(o).replaced == task && binds(o, t, day))) {
            return false;
        }
        List<Integer> withIt = orders.keySet().stream().filter(o -> orders.get(o).task == task).toList();
        return withIt.isEmpty() || withIt.stream().anyMatch(o -> binds(o, t, day));
    }

    private int duePoint(int t, int task, int unit, int point) {
        int interval = tasks.get(task).interval[unit];
        int grace = interval * tasks.get(task).tolerance / 1000;
        Thing thing = things.get(t);
        int due = interval + new int[] {thing.minutes, thing.cycles, 0}[unit];
        boolean conceded = false;
        List<Entry> its = living.stream()
                .filter(e -> (e.sort == 'D' || e.sort == 'C') && e.thing == t && e.other == task && e.point <= point)
                .sorted(Comparator.comparingInt(Entry::point).thenComparingInt(Entry::number)).toList();
        for (Entry e : its) {
            if (e.sort == 'D') {
                int c = counterAt(t, unit, e.point);
                due = c > due && c <= due + grace ? due + interval : c + interval;
                conceded = false;
            } else if (!conceded) {
                due += e.amounts[unit];
                conceded = true;
            }
        }
        return due;
    }

    private int counterAt(int t, int unit, int point) {
        Thing thing = things.get(t);
        if (unit == 2) {
            return point / 100 - thing.day;
        }
        int sum = unit == 0 ? thing.minutes : thing.cycles;
        for (Entry e : living) {
            if (e.sort == 'F' && e.point <= point && machineOf(t, e.point) == e.thing) {
                sum += e.amounts[unit];
            }
        }
        return sum;
    }

    private List<Integer> treeOf(int machine, int day) {
        return things.keySet().stream().filter(t -> machineOf(t, day * 100 + 99) == machine).toList();
    }

    private int machineOf(int t, int point) {
        List<Integer> above = above(hangingAt(living, point), t);
        int top = above.isEmpty() ? t : above.get(above.size() - 1);
        return isMachine(top) ? top : -1;
    }

    private boolean isMachine(int t) {
        return things.containsKey(t) && java.util.Arrays.stream(places)
                .flatMapToInt(java.util.Arrays::stream).noneMatch(kind -> kind == things.get(t).kind);
    }

    /** What hangs where at a point after these entries; null if they can't have been so. */
    private TreeMap<Integer, Hanging> hangingAt(List<Entry> entries, int point) {
        TreeMap<Integer, Hanging> hanging = new TreeMap<>();
        List<Entry> moves = entries.stream().filter(e -> isMove(e.sort) && e.point <= point)
                .sorted(Comparator.comparingInt(Entry::point)).toList();
        for (Entry e : moves) {
            if (e.sort == 'T') {
                if (hanging.remove(e.thing) == null) {
                    return null;
                }
            } else {
                if (hanging.containsKey(e.thing) || e.thing == e.other || above(hanging, e.other).contains(e.thing)
                        || places[things.get(e.other).kind][e.place] != things.get(e.thing).kind
                        || hangsIn(hanging, e.other, e.place) != -1) {
                    return null;
                }
                hanging.put(e.thing, new Hanging(e.other, e.place));
                if (hanging.keySet().stream().anyMatch(t -> above(hanging, t).size() > 4)) {
                    return null;
                }
            }
        }
        return hanging;
    }

    private static List<Integer> above(TreeMap<Integer, Hanging> hanging, int t) {
        List<Integer> above = new ArrayList<>();
        for (int now = t; hanging.containsKey(now); now = hanging.get(now).parent) {
            above.add(hanging.get(now).parent);
        }
        return above;
    }

    private static int hangsIn(TreeMap<Integer, Hanging> hanging, int t, int p) {
        return hanging.keySet().stream()
                .filter(child -> hanging.get(child).equals(new Hanging(t, p))).findFirst().orElse(-1);
    }

    private int enter(char sort, int thing, int other, int place, int point, int[] amounts) {
        Entry entry = new Entry(sort, made, thing, other, place, point, amounts);
        List<Entry> all = new ArrayList<>(living);
        all.add(entry);
        boolean clashes = isMove(sort) && living.stream().anyMatch(e -> isMove(e.sort) && e.point == point);
        if (made == 200 || clashes || hangingAt(all, Integer.MAX_VALUE) == null) {
            throw new IllegalStateException();
        }
        living.add(entry);
        made++;
        return entry.number;
    }

    private static void argument(boolean good) {
        if (!good) {
            throw new IllegalArgumentException();
        }
    }

    private static boolean isMove(char sort) {
        return sort == 'P' || sort == 'T';
    }

    private static boolean isPoint(int point) {
        return !out(point, 0, 3_000_099);
    }

    private static boolean out(int value, int first, int last) {
        return value < first || value > last;
    }
}
