import java.util.stream.IntStream;

/** Numbers outside of a range 0 .. bound - 1, at its edges and where careless arithmetic would wrap around. */
final class Numbers {
    private static final int[] WILD = {
        Integer.MIN_VALUE, Integer.MIN_VALUE + 1, -65536, -256, -64, -60, -32, -16, -11, -10, -9, -8, -7, -6, -5, -4, -3,
        -2, -1, 32, 33, 64, 65, 256, 257, 65536, 1 << 30, Integer.MAX_VALUE - 1, Integer.MAX_VALUE
    };

    private Numbers() {
    }

    static int[] outside(int bound) {
        IntStream edge = IntStream.of(bound, bound + 1, bound + 32, bound + 64);
        return IntStream.concat(edge, IntStream.of(WILD)).filter(n -> n < 0 || n >= bound).toArray();
    }
}
