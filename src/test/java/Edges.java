import java.util.Arrays;
import java.util.stream.IntStream;

/** The values at the edges of a range. */
final class Edges {
    private Edges() {
    }

    /** The first and the last values of the range. */
    static int[] inside(int least, int most) {
        return IntStream.of(least, least + 1, most - 1, most)
                .filter(value -> value >= least && value <= most).distinct().toArray();
    }

    /**
     * The values next to the range, those at the ends of int, and those that come into the range
     * if only their low bits are looked at.
     */
    static int[] outside(int least, int most) {
        int[] near = {
            least - 1, most + 1, -1, -most, -least - 1, Integer.MIN_VALUE, Integer.MIN_VALUE + 1,
            Integer.MAX_VALUE, Integer.MAX_VALUE - 1, Integer.MIN_VALUE + least,
            Integer.MIN_VALUE + most, least + 256, least + 65536, least + (1 << 24), most - 256,
            most - 65536,
        };
        return Arrays.stream(near).filter(value -> value < least || value > most).distinct()
                .toArray();
    }

    /** The numbers next to those that there are, from 0, and far from them. */
    static int[] noneOf(int count) {
        return outside(0, count - 1);
    }
}
