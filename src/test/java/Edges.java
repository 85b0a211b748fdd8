import java.util.stream.IntStream;

/** Numbers at the edges of ranges, and disks at the edges of their sizes. */
final class Edges {
    static final int[][] SIZES = {{1, 1}, {1, 8}, {12, 1}, {2, 2}, {3, 5}, {11, 7}, {12, 8}};

    private Edges() {
    }

    /** The ends of least .. most, and one step inwards from each. */
    static int[] in(int least, int most) {
        return IntStream.of(least, least + 1, most - 1, most)
                .filter(n -> n >= least && n <= most).distinct().toArray();
    }

    /**
     * One and two steps outwards from least .. most, and the ends of int; 16 and
     * 128 times the ones between wrap round to 0, so that a look at a place
     * alone, after the multiplying, would let them through.
     */
    static int[] out(int least, int most) {
        return new int[] {
            Integer.MIN_VALUE, Integer.MIN_VALUE + 1, -(1 << 28), -(1 << 25), least - 2, least - 1,
            most + 1, most + 2, 1 << 25, 1 << 28, Integer.MAX_VALUE - 1, Integer.MAX_VALUE
        };
    }
}
