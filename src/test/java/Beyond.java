import java.util.stream.LongStream;

/** Numbers that a call must refuse. */
final class Beyond {
    private Beyond() {
    }

    /**
     * Just beyond both ends of a range, as small and as large as int and long hold, and such as
     * would be inside without their sign or cut to a shorter type.
     */
    static long[] range(long least, long greatest) {
        return outside(least, greatest, LongStream.of(
                least - 1, greatest + 1, -1, -greatest, greatest * 2 + 1,
                Integer.MIN_VALUE, Integer.MAX_VALUE, Long.MIN_VALUE, Long.MAX_VALUE,
                least + (1L << 8), least + (1L << 16), least + (1L << 32),
                greatest - (1L << 16), greatest - (1L << 32), Long.MIN_VALUE + least));
    }

    /** For an index 0 .. count - 1, of type int. */
    static long[] index(int count) {
        return outside(0, count - 1, LongStream.of(
                -1, count, count + 1, 4, -4, -2, 1 << 8, 1 << 16,
                Integer.MIN_VALUE, Integer.MIN_VALUE + 1, Integer.MAX_VALUE));
    }

    private static long[] outside(long least, long greatest, LongStream numbers) {
        return numbers.filter(number -> number < least || number > greatest).distinct().toArray();
    }
}
