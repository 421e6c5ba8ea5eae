/** Arguments that are refused wherever they stand; the tests' books hold no thing 9. */
final class Wrong {
    static final int LOW = Integer.MIN_VALUE;
    static final int HIGH = Integer.MAX_VALUE;
    static final int[] THINGS = {-1, 9, 40, LOW, HIGH};
    static final int[] KINDS = {-1, 12, LOW, HIGH};
    static final int[] PLACES = {-1, 4, LOW, HIGH};
    static final int[] DAYS = {-1, 30_001, LOW, HIGH};
    static final int[] POINTS = {-1, 3_000_100, LOW, HIGH};

    private Wrong() {}
}
