import java.util.Arrays;
import java.util.NoSuchElementException;

/** All that a yard tells of itself, asked for once. */
final class View {
    /** As many calls as the view of six objects, with every thread in a row, takes. */
    static final int COST = 6 * 6 + 7 + 6 * 8 + 6 + 6 + 1;

    final int[][] threads = new int[6][];
    final int[] counts;
    final int[][] objects;
    final int[][] rows;
    final int stuck;

    View(Yard yard) {
        for (int t = 0; t < threads.length; t++) {
            threads[t] = thread(yard, t);
        }
        counts = counts(yard);
        objects = new int[counts[0]][];
        rows = new int[counts[0]][];
        for (int o = 0; o < objects.length; o++) {
            objects[o] = object(yard, o);
            rows[o] = row(yard, o);
        }
        stuck = yard.stuck();
    }

    static int[] thread(Yard yard, int t) {
        int[] answers = new int[6];
        for (int what = 0; what < answers.length; what++) {
            answers[what] = yard.told(t, what);
        }
        return answers;
    }

    static int[] object(Yard yard, int o) {
        int[] answers = new int[8];
        for (int what = 0; what < answers.length; what++) {
            answers[what] = yard.object(o, what);
        }
        return answers;
    }

    /** The threads in the row, asked for one by one until there is none. */
    static int[] row(Yard yard, int o) {
        int[] answers = new int[7];
        for (int i = 0; i < answers.length; i++) {
            try {
                answers[i] = yard.waiter(o, i);
            } catch (NoSuchElementException e) {
                return Arrays.copyOf(answers, i);
            }
        }
        return answers;
    }

    static int[] counts(Yard yard) {
        int[] answers = new int[7];
        for (int what = 0; what < answers.length; what++) {
            answers[what] = yard.count(what);
        }
        return answers;
    }

    @Override
    public String toString() {
        return "threads " + Arrays.deepToString(threads) + "\nobjects " + Arrays.deepToString(objects)
            + "\nrows " + Arrays.deepToString(rows) + "\ncounts " + Arrays.toString(counts)
            + "\nstuck " + stuck + "\n";
    }
}
