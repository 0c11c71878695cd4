/** The limits that the document names, and the values beyond them. */
final class Edges {
    static final int MILLION = 1_000_000;
    static final int MOST_TRADED = 100_000;
    static final long MOST_PAID = 1_000_000_000_000L;
    static final long MOST_HELD = 1_000_000_000_000_000L;

    private Edges() {
    }

    /** The first values that aren't from least to most, on either side, and the last that an int has. */
    static int[] outside(int least, int most) {
        return new int[] {least - 1, most + 1, Integer.MIN_VALUE, Integer.MAX_VALUE};
    }

    /** The first values that aren't from least to most, on either side, and the last that a long has. */
    static long[] outside(long least, long most) {
        return new long[] {least - 1, most + 1, Long.MIN_VALUE, Long.MAX_VALUE};
    }

    /** Numbers of members that aren't there when there are so many. */
    static int[] noMember(int there) {
        return new int[] {-1, there, 8, Integer.MIN_VALUE, Integer.MAX_VALUE};
    }

    /** Numbers of instruments that aren't there when there are so many. */
    static int[] noInstrument(int there) {
        return new int[] {-1, there, 6, Integer.MIN_VALUE, Integer.MAX_VALUE};
    }
}
