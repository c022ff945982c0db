import java.util.stream.IntStream;

/** Numbers to try about a range: the ones just outside it, and some far outside it. */
final class Bounds {
    private Bounds() {
    }

    static int[] outside(int least, int most) {
        int[] near = {least - 1, most + 1, least - 2, most + 2};
        int[] far = {-1000, 2000, Integer.MIN_VALUE, Integer.MIN_VALUE + 1, Integer.MAX_VALUE - 1, Integer.MAX_VALUE};
        // These are inside once they are cut to 8, 16 or 31 bits, and these change their sign once they are doubled.
        int[] cut = {least + (1 << 8), most - (1 << 8), least + (1 << 16), most - (1 << 16), least + (1 << 30),
            least + Integer.MIN_VALUE};
        int[] doubled = {(1 << 30) - 1, 1 << 30, (1 << 30) + 7, -(1 << 30), -(1 << 30) - 1, -(1 << 30) - 7};
        return IntStream.of(join(join(near, far), join(cut, doubled)))
                .filter(k -> k < least || k > most).distinct().toArray();
    }

    private static int[] join(int[] a, int[] b) {
        return IntStream.concat(IntStream.of(a), IntStream.of(b)).toArray();
    }
}
