import java.util.Arrays;
import java.util.stream.IntStream;

/** The numbers of a range, and those outside of it that are likeliest to be taken for one of it. */
final class Edges {
    static final int LEAST = Integer.MIN_VALUE;
    static final int GREATEST = Integer.MAX_VALUE;

    private Edges() {
    }

    /** All from the least to the greatest one; none if there is none. */
    static int[] within(int least, int greatest) {
        return IntStream.rangeClosed(least, greatest).toArray();
    }

    /**
     * One below and one above the range, the least and the greatest int, and those that a shift, a
     * mask, a cast or a wrap-around would bring back into the range.
     */
    static int[] outside(int least, int greatest) {
        int[] far = {
            least - 1, greatest + 1, least - 2, greatest + 2, -least - 1, -greatest - 1, LEAST, LEAST + 1, GREATEST - 1, GREATEST,
            least - 32, least + 32, greatest + 32, least + 64, least + 256, greatest - 256, least + 65536, LEAST + greatest, 1000, -1000,
        };
        return Arrays.stream(far).filter(number -> number < least || number > greatest).distinct().toArray();
    }
}
