import java.util.NoSuchElementException;

/** All that a yard tells of itself, as one text; and parts of it. */
final class Snapshot {
    private Snapshot() {
    }

    static String of(MonitorYard yard) {
        StringBuilder all = new StringBuilder();
        for (int t = 0; t < 6; t++) {
            all.append("thread ").append(t).append(": ").append(thread(yard, t)).append('\n');
        }
        for (int o = 0; o < yard.count(0); o++) {
            all.append("object ").append(o).append(": ").append(object(yard, o));
            all.append(" row: ").append(row(yard, o)).append('\n');
        }
        all.append("stuck: ").append(yard.stuck()).append('\n');
        return all.append("counts: ").append(counts(yard)).append('\n').toString();
    }

    static String thread(MonitorYard yard, int t) {
        StringBuilder answers = new StringBuilder();
        for (int what = 0; what <= 5; what++) {
            answers.append(' ').append(yard.told(t, what));
        }
        return answers.toString().trim();
    }

    static String object(MonitorYard yard, int o) {
        StringBuilder answers = new StringBuilder();
        for (int what = 0; what <= 7; what++) {
            answers.append(' ').append(yard.object(o, what));
        }
        return answers.toString().trim();
    }

    /** The threads in the row, asked for one by one until there is none; "none" if there never was one. */
    static String row(MonitorYard yard, int o) {
        StringBuilder answers = new StringBuilder();
        for (int i = 0; i < 7; i++) {
            try {
                int waiter = yard.waiter(o, i);
                answers.append(' ').append(waiter);
            } catch (NoSuchElementException e) {
                break;
            }
        }
        return answers.length() == 0 ? "none" : answers.toString().trim();
    }

    static String counts(MonitorYard yard) {
        StringBuilder answers = new StringBuilder();
        for (int what = 0; what <= 6; what++) {
            answers.append(' ').append(yard.count(what));
        }
        return answers.toString().trim();
    }
}
