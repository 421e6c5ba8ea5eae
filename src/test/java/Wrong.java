/** Arguments that are refused wherever they stand; the tests' books hold no thing 9, the fleet no 10 nor 38. */
final class Wrong {
    static final int LOW = Integer.MIN_VALUE;
    static final int HIGH = Integer.MAX_VALUE;
    static final int[] THINGS = {-1, 9, 40, LOW, HIGH};
    static final int[] FLEET_THINGS = {-1, 10, 38, 40, LOW, HIGH};
    /** 2 and 14 could be tasks, but the fleet has none such. */
    static final int[] FLEET_TASKS = {-1, 2, 14, 16, LOW, HIGH};
    /** 2 to 5 are things of the fleet, but parts. */
    static final int[] FLEET_MACHINES = {-1, 2, 3, 4, 5, 10, 38, 40, LOW, HIGH};
    static final int[] KINDS = {-1, 12, LOW, HIGH};
    static final int[] PLACES = {-1, 4, LOW, HIGH};
    static final int[] DAYS = {-1, 30_001, LOW, HIGH};
    static final int[] POINTS = {-1, 3_000_100, LOW, HIGH};

    private Wrong() {}
}
