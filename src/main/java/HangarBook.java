import java.util.Arrays;

/** The book of what flies, as ../shared/DOC.md promises it. */
public final class HangarBook {
    public static final int NONE = -1;

    private static final int KINDS = 12;
    private static final int PLACES = 4;
    private static final int THINGS = 40;
    private static final int TASKS = 16;
    private static final int ORDERS = 8;
    private static final int ENTRIES = 200;
    private static final int DEEPEST = 4;

    private static final int LAST_DAY = 30_000;
    private static final int POINTS_A_DAY = 100;
    private static final int LAST_POINT = LAST_DAY * POINTS_A_DAY + POINTS_A_DAY - 1;

    private static final int MINUTES = 0;
    private static final int CYCLES = 1;
    private static final int DAYS = 2;
    private static final int UNITS = 3;
    private static final int FLOWN_UNITS = 2;

    private static final int MOST_AT_BEGINNING = 1_000_000;
    private static final int MOST_OF_LIFE = 1_000_000;
    private static final int LONGEST_INTERVAL = 100_000;
    private static final int WIDEST_TOLERANCE = 500;
    private static final int DAYS_IN_MORE = 1_000;
    private static final int TOLERANCE_WHOLE = 1_000;
    private static final int MOST_FLOWN = 100_000;
    private static final int MOST_CONCEDED = 10_000;
    private static final int CYCLES_IN_MORE = MOST_CONCEDED + 1;
    private static final int FASTEST_PACE = 1_440;
    private static final int LAST_FORECAST_DAY = 40_000;
    private static final int NEVER = LAST_FORECAST_DAY + 1;

    private static final int PUT = 0;
    private static final int TAKE = 1;
    private static final int FLIGHT = 2;
    private static final int DOING = 3;
    private static final int CONCESSION = 4;
    private static final int REBUILDING = 5;

    private final Kinds kinds;
    private final Things things;
    private final Tasks tasks;
    private final Orders orders;
    private final Entries entries;
    private final Standing standing;
    private final int[] forecastRow;

    public HangarBook() {
        kinds = new Kinds();
        things = new Things(kinds);
        tasks = new Tasks();
        orders = new Orders();
        entries = new Entries(things, kinds);
        standing = new Standing(things, tasks, orders, entries, new Tree(things, kinds));
        forecastRow = new int[THINGS * TASKS];
    }

    public boolean place(int kind, int p, int child) {
        boolean childIsKnown = child == NONE || isBelow(child, KINDS);
        if (!isBelow(kind, KINDS) || !isBelow(p, PLACES) || !childIsKnown || things.size > 0) {
            return false;
        }
        kinds.hanging[kind * PLACES + p] = child;
        return true;
    }

    public boolean thing(int t, int kind, int minutes, int cycles, int day) {
        if (!isBelow(t, THINGS) || things.has(t) || !isBelow(kind, KINDS) || !isDay(day)) {
            return false;
        }
        if (!isUpTo(minutes, MOST_AT_BEGINNING) || !isUpTo(cycles, MOST_AT_BEGINNING)) {
            return false;
        }
        things.add(t, kind, minutes, cycles, day);
        standing.forget();
        return true;
    }

    public boolean task(int task, int kind, int minutes, int cycles, int more) {
        if (!isBelow(task, TASKS) || !isBelow(kind, KINDS) || more < 0) {
            return false;
        }
        if (tasks.has(task) && tasks.kind[task] != kind) {
            return false;
        }
        int days = more / DAYS_IN_MORE;
        int tolerance = more % DAYS_IN_MORE;
        if (!isInterval(minutes) || !isInterval(cycles) || !isInterval(days)
                || tolerance > WIDEST_TOLERANCE) {
            return false;
        }
        tasks.set(task, kind, minutes, cycles, days, tolerance);
        standing.forget();
        return true;
    }

    public boolean order(int order, int kind, int span, int task, int replaced) {
        if (!isBelow(order, ORDERS) || !isBelow(kind, KINDS) || !isBelow(span, THINGS * THINGS)) {
            return false;
        }
        int first = span / THINGS;
        int last = span % THINGS;
        if (first > last || !tasks.has(task) || (replaced != NONE && !tasks.has(replaced))) {
            return false;
        }
        orders.set(order, kind, first, last, task, replaced);
        return true;
    }

    public boolean life(int kind, int minutes, int cycles) {
        if (!isBelow(kind, KINDS) || !isUpTo(minutes, MOST_OF_LIFE) || !isUpTo(cycles, MOST_OF_LIFE)) {
            return false;
        }
        kinds.life[MINUTES][kind] = minutes;
        kinds.life[CYCLES][kind] = cycles;
        return true;
    }

    public int flight(int machine, int point, int minutes, int cycles)
            throws IllegalArgumentException, IllegalStateException {
        refuseUnless(things.isMachine(machine) && isPoint(point)
                && isUpTo(minutes, MOST_FLOWN) && isUpTo(cycles, MOST_FLOWN));
        Entry entry = new Entry(FLIGHT, machine, point);
        entry.minutes = minutes;
        entry.cycles = cycles;
        return enter(entry);
    }

    public int put(int t, int parent, int p, int point)
            throws IllegalArgumentException, IllegalStateException {
        refuseUnless(things.has(t) && things.has(parent) && isBelow(p, PLACES) && isPoint(point));
        Entry entry = new Entry(PUT, t, point);
        entry.other = parent;
        entry.place = p;
        return enter(entry);
    }

    public int take(int t, int point) throws IllegalArgumentException, IllegalStateException {
        refuseUnless(things.has(t) && isPoint(point));
        return enter(new Entry(TAKE, t, point));
    }

    public int done(int t, int task, int point)
            throws IllegalArgumentException, IllegalStateException {
        refuseUnless(things.has(t) && tasks.has(task) && isPoint(point));
        Entry entry = new Entry(DOING, t, point);
        entry.other = task;
        return enter(entry);
    }

    public int concede(int t, int task, int point, int minutes, int more)
            throws IllegalArgumentException, IllegalStateException {
        refuseUnless(things.has(t) && tasks.has(task) && isPoint(point)
                && isUpTo(minutes, MOST_CONCEDED)
                && more >= 0 && isUpTo(more / CYCLES_IN_MORE, MOST_CONCEDED));
        Entry entry = new Entry(CONCESSION, t, point);
        entry.other = task;
        entry.minutes = minutes;
        entry.cycles = more / CYCLES_IN_MORE;
        entry.days = more % CYCLES_IN_MORE;
        return enter(entry);
    }

    public int rebuild(int t, int order, int point)
            throws IllegalArgumentException, IllegalStateException {
        refuseUnless(things.has(t) && orders.has(order) && isPoint(point));
        Entry entry = new Entry(REBUILDING, t, point);
        entry.other = order;
        return enter(entry);
    }

    public void strike(int entry) throws IllegalArgumentException, IllegalStateException {
        refuseUnless(entries.isLiving(entry));
        if (!entries.erase(entry)) {
            throw new IllegalStateException("the other moves need this one");
        }
        standing.forget();
    }

    public int count(int what) {
        switch (what) {
            case 0: return entries.made;
            case 1: return entries.living;
            case 2: return things.size;
            default: return NONE;
        }
    }

    public int where(int t, int point, int what) {
        if (!things.has(t) || !isPoint(point)) {
            return NONE;
        }
        standing.show(point);
        switch (what) {
            case 0: return standing.tree.parent[t];
            case 1: return standing.tree.place[t];
            case 2: return machineOf(t);
            case 3: return standing.tree.depthOf(t);
            default: return NONE;
        }
    }

    public int at(int t, int p, int point) {
        if (!things.has(t) || !isBelow(p, PLACES) || !isPoint(point)) {
            return NONE;
        }
        standing.show(point);
        return standing.tree.child[t * PLACES + p];
    }

    public int counter(int t, int unit, int day) {
        if (!things.has(t) || !isBelow(unit, UNITS) || !isDay(day)) {
            return 0;
        }
        standing.show(lastPointOf(day));
        return standing.counterOf(t, unit, day);
    }

    public int due(int t, int task, int unit, int day) {
        if (!things.has(t) || !tasks.has(task) || !isBelow(unit, UNITS) || !isDay(day)
                || tasks.interval[unit][task] == 0) {
            return NONE;
        }
        standing.show(lastPointOf(day));
        return standing.duePoint[unit][t * TASKS + task];
    }

    public int asked(int t, int task, int day) {
        if (!things.has(t) || !tasks.has(task) || !isDay(day)) {
            return 0;
        }
        standing.show(lastPointOf(day));
        if (!standing.isAsked(t, task)) {
            return 0;
        }
        return standing.isOverdue(t, task, day) ? 2 : 1;
    }

    public int open(int machine, int day, int i) {
        if (!things.isMachine(machine) || !isDay(day) || i < 0) {
            return NONE;
        }
        standing.show(lastPointOf(day));
        int before = i;
        for (int t = 0; t < THINGS; t++) {
            if (!isInTreeOf(machine, t)) {
                continue;
            }
            for (int task = 0; task < TASKS; task++) {
                if (standing.isAskedAndOverdue(t, task, day)) {
                    if (before == 0) {
                        return t * TASKS + task;
                    }
                    before--;
                }
            }
        }
        return NONE;
    }

    public int grounded(int machine, int day) {
        if (!things.isMachine(machine) || !isDay(day)) {
            return NONE;
        }
        standing.show(lastPointOf(day));
        for (int t = 0; t < THINGS; t++) {
            if (isInTreeOf(machine, t)
                    && (isPastItsLife(t, day) || hasEmptyPlace(t) || owesAnOrder(t, day))) {
                return 1;
            }
        }
        return 0;
    }

    public int forecast(int machine, int day, int minutes, int cycles, int i) {
        if (!things.isMachine(machine) || !isDay(day) || i < 0
                || !isUpTo(minutes, FASTEST_PACE) || !isUpTo(cycles, FASTEST_PACE)) {
            return NONE;
        }
        standing.show(lastPointOf(day));
        int found = 0;
        for (int t = 0; t < THINGS; t++) {
            if (isInTreeOf(machine, t)) {
                found = forecastThing(t, day, minutes, cycles, found);
            }
        }
        return i < found ? forecastRow[i] : NONE;
    }

    /** Adds a thing's tasks to the sorted row of the forecast: how many are in it then. */
    private int forecastThing(int t, int day, int minutes, int cycles, int foundBefore) {
        int found = foundBefore;
        for (int task = 0; task < TASKS; task++) {
            if (!standing.isAsked(t, task)) {
                continue;
            }
            int overdueDay = standing.firstOverdueDay(t, task, day, minutes, cycles);
            if (overdueDay <= LAST_FORECAST_DAY) {
                sortIn((overdueDay * THINGS + t) * TASKS + task, found);
                found++;
            }
        }
        return found;
    }

    private void sortIn(int value, int found) {
        int i = found;
        while (i > 0 && forecastRow[i - 1] > value) {
            forecastRow[i] = forecastRow[i - 1];
            i--;
        }
        forecastRow[i] = value;
    }

    private boolean isPastItsLife(int t, int day) {
        int kind = things.kind[t];
        for (int unit = 0; unit < FLOWN_UNITS; unit++) {
            int limit = kinds.life[unit][kind];
            if (limit > 0 && standing.counterOf(t, unit, day) > limit) {
                return true;
            }
        }
        return false;
    }

    private boolean hasEmptyPlace(int t) {
        int kind = things.kind[t];
        for (int p = 0; p < PLACES; p++) {
            if (kinds.hanging[kind * PLACES + p] != NONE
                    && standing.tree.child[t * PLACES + p] == NONE) {
                return true;
            }
        }
        return false;
    }

    private boolean owesAnOrder(int t, int day) {
        for (int order = 0; order < ORDERS; order++) {
            if (standing.binds(order, t) && standing.isAskedAndOverdue(t, orders.task[order], day)) {
                return true;
            }
        }
        return false;
    }

    private boolean isInTreeOf(int machine, int t) {
        return things.has(t) && standing.tree.topOf(t) == machine;
    }

    private int machineOf(int t) {
        int top = standing.tree.topOf(t);
        return things.isMachine(top) ? top : NONE;
    }

    private int enter(Entry entry) {
        int number = entries.add(entry);
        if (number == NONE) {
            throw new IllegalStateException("the book can't hold this entry");
        }
        standing.forget();
        return number;
    }

    private static void refuseUnless(boolean good) {
        if (!good) {
            throw new IllegalArgumentException("no such thing, point or amount");
        }
    }

    private static boolean isBelow(int value, int bound) {
        return value >= 0 && value < bound;
    }

    private static boolean isUpTo(int value, int most) {
        return value >= 0 && value <= most;
    }

    private static boolean isInterval(int value) {
        return isUpTo(value, LONGEST_INTERVAL);
    }

    private static boolean isDay(int day) {
        return isUpTo(day, LAST_DAY);
    }

    private static boolean isPoint(int point) {
        return isUpTo(point, LAST_POINT);
    }

    private static int lastPointOf(int day) {
        return day * POINTS_A_DAY + POINTS_A_DAY - 1;
    }

    /** What may hang where, and how long the parts of a kind live. */
    private static final class Kinds {
        final int[] hanging = new int[KINDS * PLACES];
        final int[][] life = new int[FLOWN_UNITS][KINDS];

        Kinds() {
            Arrays.fill(hanging, NONE);
        }

        boolean hangsSomewhere(int kind) {
            for (int i = 0; i < hanging.length; i++) {
                if (hanging[i] == kind) {
                    return true;
                }
            }
            return false;
        }
    }

    private static final class Things {
        final Kinds kinds;
        final int[] kind = new int[THINGS];
        final int[][] beginning = new int[FLOWN_UNITS][THINGS];
        final int[] firstDay = new int[THINGS];
        int size;

        Things(Kinds kinds) {
            this.kinds = kinds;
            Arrays.fill(kind, NONE);
        }

        boolean has(int t) {
            return isBelow(t, THINGS) && kind[t] != NONE;
        }

        boolean isMachine(int t) {
            return has(t) && !kinds.hangsSomewhere(kind[t]);
        }

        void add(int t, int itsKind, int minutes, int cycles, int day) {
            kind[t] = itsKind;
            beginning[MINUTES][t] = minutes;
            beginning[CYCLES][t] = cycles;
            firstDay[t] = day;
            size++;
        }
    }

    private static final class Tasks {
        final int[] kind = new int[TASKS];
        final int[][] interval = new int[UNITS][TASKS];
        final int[] tolerance = new int[TASKS];

        Tasks() {
            Arrays.fill(kind, NONE);
        }

        boolean has(int task) {
            return isBelow(task, TASKS) && kind[task] != NONE;
        }

        void set(int task, int itsKind, int minutes, int cycles, int days, int itsTolerance) {
            kind[task] = itsKind;
            interval[MINUTES][task] = minutes;
            interval[CYCLES][task] = cycles;
            interval[DAYS][task] = days;
            tolerance[task] = itsTolerance;
        }

        int graceOf(int task, int unit) {
            return interval[unit][task] * tolerance[task] / TOLERANCE_WHOLE;
        }
    }

    private static final class Orders {
        final int[] kind = new int[ORDERS];
        final int[] first = new int[ORDERS];
        final int[] last = new int[ORDERS];
        final int[] task = new int[ORDERS];
        final int[] replaced = new int[ORDERS];

        Orders() {
            Arrays.fill(kind, NONE);
        }

        boolean has(int order) {
            return isBelow(order, ORDERS) && kind[order] != NONE;
        }

        void set(int order, int itsKind, int from, int to, int itsTask, int itsReplaced) {
            kind[order] = itsKind;
            first[order] = from;
            last[order] = to;
            task[order] = itsTask;
            replaced[order] = itsReplaced;
        }

        boolean isFor(int order, int t, int kindOfThing) {
            return kind[order] == kindOfThing && t >= first[order] && t <= last[order];
        }
    }

    private static final class Entry {
        final int sort;
        final int thing;
        final int point;
        int number;
        /** The parent, the task or the order, as the sort has it. */
        int other;
        int place;
        int minutes;
        int cycles;
        int days;

        Entry(int sort, int thing, int point) {
            this.sort = sort;
            this.thing = thing;
            this.point = point;
        }

        boolean isMove() {
            return sort == PUT || sort == TAKE;
        }

        /** A flight counts where its point's moves left all, and a doing reads that point's flights. */
        private int rank() {
            if (isMove()) {
                return 0;
            }
            return sort == FLIGHT ? 1 : 2;
        }

        boolean comesBefore(Entry that) {
            if (point != that.point) {
                return point < that.point;
            }
            if (rank() != that.rank()) {
                return rank() < that.rank();
            }
            return number < that.number;
        }

        int amountOf(int unit) {
            switch (unit) {
                case MINUTES: return minutes;
                case CYCLES: return cycles;
                default: return days;
            }
        }
    }

    /** All entries by number, and the living ones in the order in which they happened. */
    private static final class Entries {
        final Entry[] byNumber = new Entry[ENTRIES];
        final Entry[] inTime = new Entry[ENTRIES];
        final Tree trial;
        int made;
        int living;

        Entries(Things things, Kinds kinds) {
            trial = new Tree(things, kinds);
        }

        boolean isLiving(int number) {
            return isBelow(number, made) && byNumber[number] != null;
        }

        /** The entry's number; NONE, with nothing changed, if the book can't hold it. */
        int add(Entry entry) {
            if (made >= ENTRIES || (entry.isMove() && hasMoveAt(entry.point))) {
                return NONE;
            }
            entry.number = made;
            insert(entry);
            if (entry.isMove() && !isPossible()) {
                remove(entry);
                return NONE;
            }
            byNumber[made] = entry;
            made++;
            return entry.number;
        }

        /** False, with nothing changed, if the other moves can't have been without this one. */
        boolean erase(int number) {
            Entry entry = byNumber[number];
            remove(entry);
            if (entry.isMove() && !isPossible()) {
                insert(entry);
                return false;
            }
            byNumber[number] = null;
            return true;
        }

        private boolean hasMoveAt(int point) {
            for (int i = 0; i < living; i++) {
                if (inTime[i].point == point && inTime[i].isMove()) {
                    return true;
                }
            }
            return false;
        }

        private boolean isPossible() {
            trial.clear();
            for (int i = 0; i < living; i++) {
                Entry entry = inTime[i];
                if ((entry.sort == PUT && !trial.hang(entry))
                        || (entry.sort == TAKE && !trial.unhang(entry.thing))) {
                    return false;
                }
            }
            return true;
        }

        private void insert(Entry entry) {
            int i = living;
            while (i > 0 && entry.comesBefore(inTime[i - 1])) {
                inTime[i] = inTime[i - 1];
                i--;
            }
            inTime[i] = entry;
            living++;
        }

        private void remove(Entry entry) {
            int kept = 0;
            for (int i = 0; i < living; i++) {
                if (inTime[i] != entry) {
                    inTime[kept] = inTime[i];
                    kept++;
                }
            }
            living = kept;
        }
    }

    /** What hangs where. */
    private static final class Tree {
        final Things things;
        final Kinds kinds;
        final int[] parent = new int[THINGS];
        final int[] place = new int[THINGS];
        final int[] child = new int[THINGS * PLACES];

        Tree(Things things, Kinds kinds) {
            this.things = things;
            this.kinds = kinds;
        }

        void clear() {
            Arrays.fill(parent, NONE);
            Arrays.fill(place, NONE);
            Arrays.fill(child, NONE);
        }

        /** False, with nothing changed, if that can't be. */
        boolean hang(Entry entry) {
            int t = entry.thing;
            int above = entry.other;
            int p = entry.place;
            if (parent[t] != NONE || child[above * PLACES + p] != NONE || !fits(t, above, p)
                    || levelsAbove(t, above) != NONE
                    || depthOf(above) + 1 + heightOf(t) > DEEPEST) {
                return false;
            }
            parent[t] = above;
            place[t] = p;
            child[above * PLACES + p] = t;
            return true;
        }

        /** False, with nothing changed, if that can't be. */
        boolean unhang(int t) {
            if (parent[t] == NONE) {
                return false;
            }
            child[parent[t] * PLACES + place[t]] = NONE;
            parent[t] = NONE;
            place[t] = NONE;
            return true;
        }

        private boolean fits(int t, int above, int p) {
            return kinds.hanging[things.kind[above] * PLACES + p] == things.kind[t];
        }

        int topOf(int t) {
            int top = t;
            for (int step = 0; step < DEEPEST && parent[top] != NONE; step++) {
                top = parent[top];
            }
            return top;
        }

        int depthOf(int t) {
            return levelsAbove(topOf(t), t);
        }

        /** How many levels a thing lies above another one (0: it is the same), or NONE. */
        private int levelsAbove(int upper, int lower) {
            int t = lower;
            for (int levels = 0; levels <= DEEPEST && t != NONE; levels++) {
                if (t == upper) {
                    return levels;
                }
                t = parent[t];
            }
            return NONE;
        }

        private int heightOf(int t) {
            int height = 0;
            for (int lower = 0; lower < THINGS; lower++) {
                height = Math.max(height, levelsAbove(t, lower));
            }
            return height;
        }
    }

    /** How all stands at one point: kept until something changes or an earlier point is asked for. */
    private static final class Standing {
        final Things things;
        final Tasks tasks;
        final Orders orders;
        final Entries entries;
        final Tree tree;
        final int[][] flown = new int[FLOWN_UNITS][THINGS];
        final int[][] duePoint = new int[UNITS][THINGS * TASKS];
        /** By thing, a bit for each task with a concession since its last doing. */
        final int[] conceded = new int[THINGS];
        /** By thing, a bit for each order it was rebuilt by. */
        final int[] rebuilt = new int[THINGS];
        int shown = NONE;
        int next;

        Standing(Things things, Tasks tasks, Orders orders, Entries entries, Tree tree) {
            this.things = things;
            this.tasks = tasks;
            this.orders = orders;
            this.entries = entries;
            this.tree = tree;
        }

        void forget() {
            shown = NONE;
        }

        void show(int point) {
            if (shown == NONE || point < shown) {
                begin();
            }
            while (next < entries.living && entries.inTime[next].point <= point) {
                happen(entries.inTime[next]);
                next++;
            }
            shown = point;
        }

        private void begin() {
            next = 0;
            tree.clear();
            Arrays.fill(conceded, 0);
            Arrays.fill(rebuilt, 0);
            for (int t = 0; t < THINGS; t++) {
                if (things.has(t)) {
                    beginThing(t);
                }
            }
        }

        private void beginThing(int t) {
            flown[MINUTES][t] = things.beginning[MINUTES][t];
            flown[CYCLES][t] = things.beginning[CYCLES][t];
            for (int task = 0; task < TASKS; task++) {
                if (tasks.has(task)) {
                    int i = t * TASKS + task;
                    duePoint[MINUTES][i] = flown[MINUTES][t] + tasks.interval[MINUTES][task];
                    duePoint[CYCLES][i] = flown[CYCLES][t] + tasks.interval[CYCLES][task];
                    duePoint[DAYS][i] = tasks.interval[DAYS][task];
                }
            }
        }

        private void happen(Entry entry) {
            switch (entry.sort) {
                case PUT:
                    tree.hang(entry);
                    break;
                case TAKE:
                    tree.unhang(entry.thing);
                    break;
                case FLIGHT:
                    fly(entry);
                    break;
                case DOING:
                    doTask(entry);
                    break;
                case CONCESSION:
                    postpone(entry);
                    break;
                default:
                    rebuilt[entry.thing] |= 1 << entry.other;
                    break;
            }
        }

        private void fly(Entry flight) {
            for (int t = 0; t < THINGS; t++) {
                if (tree.topOf(t) == flight.thing) {
                    flown[MINUTES][t] += flight.minutes;
                    flown[CYCLES][t] += flight.cycles;
                }
            }
        }

        private void doTask(Entry doing) {
            int task = doing.other;
            int i = doing.thing * TASKS + task;
            for (int unit = 0; unit < UNITS; unit++) {
                int counter = counterOf(doing.thing, unit, doing.point / POINTS_A_DAY);
                int late = counter - duePoint[unit][i];
                boolean isTolerated = late > 0 && late <= tasks.graceOf(task, unit);
                int from = isTolerated ? duePoint[unit][i] : counter;
                duePoint[unit][i] = from + tasks.interval[unit][task];
            }
            conceded[doing.thing] &= ~(1 << task);
        }

        private void postpone(Entry concession) {
            int task = concession.other;
            int bit = 1 << task;
            if ((conceded[concession.thing] & bit) != 0) {
                return;
            }
            conceded[concession.thing] |= bit;
            for (int unit = 0; unit < UNITS; unit++) {
                duePoint[unit][concession.thing * TASKS + task] += concession.amountOf(unit);
            }
        }

        int counterOf(int t, int unit, int day) {
            return unit == DAYS ? day - things.firstDay[t] : flown[unit][t];
        }

        boolean binds(int order, int t) {
            return orders.has(order) && orders.isFor(order, t, things.kind[t])
                    && (rebuilt[t] & (1 << order)) == 0;
        }

        boolean isAsked(int t, int task) {
            if (!tasks.has(task) || tasks.kind[task] != things.kind[t]) {
                return false;
            }
            boolean isOrdered = false;
            boolean isBound = false;
            for (int order = 0; order < ORDERS; order++) {
                boolean binding = binds(order, t);
                if (binding && orders.replaced[order] == task) {
                    return false;
                }
                if (orders.has(order) && orders.task[order] == task) {
                    isOrdered = true;
                    isBound = isBound || binding;
                }
            }
            return isBound || !isOrdered;
        }

        /** The pace is of no matter: no day from the next one on can be this one. */
        boolean isOverdue(int t, int task, int day) {
            return firstOverdueDay(t, task, day, 0, 0) == day;
        }

        boolean isAskedAndOverdue(int t, int task, int day) {
            return isAsked(t, task) && isOverdue(t, task, day);
        }

        /** The least day from this one on at whose end a task is overdue, flown at that pace. */
        int firstOverdueDay(int t, int task, int day, int minutes, int cycles) {
            int first = firstDayAbove(t, task, MINUTES, day, minutes);
            first = Math.min(first, firstDayAbove(t, task, CYCLES, day, cycles));
            return Math.min(first, firstDayAbove(t, task, DAYS, day, 1));
        }

        private int firstDayAbove(int t, int task, int unit, int day, int pace) {
            if (tasks.interval[unit][task] == 0) {
                return NEVER;
            }
            int left = duePoint[unit][t * TASKS + task] - counterOf(t, unit, day);
            if (left < 0) {
                return day;
            }
            return pace == 0 ? NEVER : day + left / pace + 1;
        }
    }
}
