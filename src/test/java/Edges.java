/** What lies just outside the document's limits, far outside, and where a shift by 32 wraps round. */
final class Edges {
    static final Class<IndexOutOfBoundsException> INDEX = IndexOutOfBoundsException.class;
    static final Class<IllegalArgumentException> ARGUMENT = IllegalArgumentException.class;
    static final Class<IllegalStateException> STATE = IllegalStateException.class;

    static final int ALL = 31;
    static final int OPEN = MeasureRows.OPEN;
    static final int NONE = MeasureRows.NONE;
    static final int LEAST = Integer.MIN_VALUE;
    static final int GREATEST = Integer.MAX_VALUE;

    static final int[] EDGE_CODES = {10, 99, 1000, 9999, 100000, 999999};
    static final int[] NO_CODES = {
        LEAST, -123456, -1234, -12, -1, 0, 1, 9, 100, 123, 999, 10000, 12345, 99999, 1000000, 1234567, GREATEST
    };
    static final int[] NO_LANDS = {LEAST, -32, -16, -1, 16, 17, 23, 24, 30, 31, 32, 35, 47, GREATEST};
    static final int[] NO_GROUPS = {LEAST, -16, -1, 0, 3, 15, 24, 25, 30, 32, 48, 55, GREATEST};
    /** Neither a land, nor a group, nor ALL. */
    static final int[] NO_PLACES = {LEAST, -1, 24, 25, 30, 32, 35, 48, 63, GREATEST};
    /** Neither a day nor OPEN. */
    static final int[] NO_LAST_DAYS = {LEAST, -OPEN, -1, 10001, 19999, 20001, GREATEST};
    static final int[] NO_DAYS = {LEAST, -OPEN, -1, 10001, 19999, OPEN, 20001, GREATEST};
    static final int[] NO_PAPERS = {LEAST, -32, -1, 16, 17, 31, 32, 33, GREATEST};

    private Edges() {
    }

    /** Numbers that are no row's where there are so many. */
    static int[] noRows(int count) {
        return new int[] {LEAST, -count, -1, 0, count + 1, count + 2, 80 + count, 256 + count, GREATEST};
    }
}
