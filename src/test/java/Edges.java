import java.util.ArrayList;
import java.util.List;

/** Numbers just outside of what a sentence allows, and those far outside that are apt to wrap round to one within. */
final class Edges {
    static final int LEAST = Integer.MIN_VALUE, GREATEST = Integer.MAX_VALUE;

    private Edges() { }

    /** What lies outside of least .. most: the next ones, the least and the greatest int, and those alike in low bits. */
    static int[] outside(int least, int most) {
        List<Integer> found = new ArrayList<>();
        long[] tried = {
            least - 1L, most + 1L, least - 2L, most + 2L, -1, 0, -100, 100, -1000, 1000,
            least + 32L, most + 32L, least - 32L, least + 256L, least - 256L, most + 256L,
            least + 65536L, least - 65536L, LEAST, LEAST + 1L, GREATEST, GREATEST - 1L, (long) LEAST + least, -least, -most,
        };
        for (long t : tried) {
            boolean isInt = t >= LEAST && t <= GREATEST, isWithin = t >= least && t <= most;
            if (isInt && !isWithin && !found.contains((int) t)) found.add((int) t);
        }
        return found.stream().mapToInt(i -> i).toArray();
    }
}
