/** Books that the tests of bounds begin with. */
final class Books {
    static final int NONE = HangarBook.NONE;
    static final int LAST_DAY = 30_000;
    static final int LAST_POINT = 3_000_099;
    static final int MOST_ENTRIES = 200;

    private Books() {}

    /** Kind 0 holds kind 1 in places 0 and 3, which holds kind 2 in place 1; no thing is there yet. */
    static HangarBook layout() {
        HangarBook x = new HangarBook();
        x.place(0, 0, 1);
        x.place(0, 3, 1);
        x.place(1, 1, 2);
        return x;
    }

    /** Machines 0 and 1 of kind 0, parts 2, 3 and 6 of kind 1, parts 4 and 5 of kind 2, and 39 alone of kind 11. */
    static HangarBook fleet() {
        HangarBook x = layout();
        for (int t = 0; t < 6; t++) {
            x.thing(t, t / 2, t * 1000, t * 10, t);
        }
        x.thing(6, 1, 0, 0, 0);
        x.thing(39, 11, 70, 7, 9);
        x.task(0, 0, 100, 10, 5_100);
        x.task(1, 1, 110, 0, 3_000);
        x.task(15, 2, 0, 20, 0);
        x.order(0, 0, 39, 0, NONE);
        x.order(7, 1, 2 * 40 + 3, 1, NONE);
        x.life(1, 2_150, 0);
        return x;
    }

    /**
     * The fleet with ten entries of all sorts, 0 .. 9, of which the last one is struck.
     * On day 2 machine 0 lacks nothing, so that whatever grounds it comes to light. Entry 3 does a
     * task late, tolerated by its minutes, not by its cycles, so that a tolerance comes to light too.
     */
    static HangarBook flown() {
        HangarBook x = fleet();
        x.put(4, 2, 1, 50);
        x.put(2, 0, 0, 100);
        x.flight(0, 150, 105, 12);
        x.done(0, 0, 200);
        x.concede(0, 0, 250, 5, 2 * 10_001 + 1);
        x.rebuild(1, 0, 260);
        x.take(4, 300);
        x.put(5, 6, 1, 60);
        x.put(6, 0, 3, 110);
        x.flight(0, 210, 1_000, 100);
        x.strike(9);
        return x;
    }

    /** The flown fleet with as many entries as there can be, of which two are struck. */
    static HangarBook full() {
        HangarBook x = flown();
        for (int i = x.count(0); i < MOST_ENTRIES; i++) {
            x.flight(0, 1_000 + i, 1, 0);
        }
        x.strike(MOST_ENTRIES - 1);
        return x;
    }

    /** Kind 0 holds kind 0 in places 0 and 1, so that things 0 .. 9 can hang in one another; 39 is a machine. */
    static HangarBook chain() {
        HangarBook x = new HangarBook();
        x.place(0, 0, 0);
        x.place(0, 1, 0);
        x.place(11, 0, 0);
        for (int t = 0; t < 10; t++) {
            x.thing(t, 0, 0, 0, 0);
        }
        x.thing(39, 11, 0, 0, 0);
        return x;
    }

    /** One machine 0 of kind 0, from day 0, with nothing flown. */
    static HangarBook alone() {
        HangarBook x = new HangarBook();
        x.thing(0, 0, 0, 0, 0);
        return x;
    }
}
