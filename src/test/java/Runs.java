import java.util.ArrayList;
import java.util.List;

/**
 * Runs of calls written as text, a call a line, each run on a new yard:
 *
 * <pre>
 * act(0, 0, 0, 0, -1) -> 0                            a call and the answer that is due
 * act(1, 0, 1, 0, -1) -> throws.IllegalStateException  or what it throws
 * interrupt(4)                                        no answer, nothing thrown
 * 3 x tick(1) -> 0                                    the same line three times
 * thread 0 -> 1 1 0 0 0 -1                            told(0, 0) to told(0, 5)
 * object 0 -> 0 1 1 1 0 1 0 0                         object(0, 0) to object(0, 7)
 * row 0 -> 1 2                                        waiter(0, 0), waiter(0, 1); 'none' if it's empty
 * counts -> 1 13 3 0 0 5 5                            count(0) to count(6)
 * # words behind a number sign are passed over
 * </pre>
 *
 * A call that throws, and one that only asks, must leave all that the yard tells as it was.
 */
final class Runs {
    private final String title;
    private int lines;
    private int wrong;

    Runs(String title) {
        this.title = title;
    }

    void run(String name, String text) {
        MonitorYard yard = new MonitorYard();
        int number = 0;
        for (String raw : text.split("\n")) {
            number++;
            String line = raw.replaceAll("#.*", "").trim();
            if (!line.isEmpty()) {
                runLine(yard, line, title + ", " + name + ", line " + number);
            }
        }
    }

    /** Ends the program, with exit code 1 if an answer was not the one that was due. */
    void finish() {
        System.out.println(title + ": " + lines + " lines, " + wrong + " wrong");
        System.exit(wrong == 0 && lines > 0 ? 0 : 1);
    }

    private void runLine(MonitorYard yard, String line, String where) {
        String[] sides = line.split("->");
        String call = sides[0].trim();
        String due = sides.length > 1 ? sides[1].trim() : "";
        int times = 1;
        if (call.matches("\\d+ x .*")) {
            times = Integer.parseInt(call.substring(0, call.indexOf(' ')));
            call = call.substring(call.indexOf('x') + 1).trim();
        }
        for (int i = 0; i < times; i++) {
            check(yard, call, due, where);
        }
    }

    private void check(MonitorYard yard, String call, String due, String where) {
        lines++;
        String before = Snapshot.of(yard);
        String got;
        boolean keeps = !call.matches("(make|act|tick|interrupt)\\(.*");
        try {
            got = answer(yard, call);
        } catch (RuntimeException e) {
            got = "throws." + e.getClass().getSimpleName();
            keeps = true;
        }
        if (!got.equals(due)) {
            complain(where + ": " + call + " answered " + got + ", due is " + due);
        }
        String after = Snapshot.of(yard);
        if (keeps && !before.equals(after)) {
            complain(where + ": " + call + " changed\n" + before + "into\n" + after);
        }
    }

    private void complain(String words) {
        wrong++;
        System.out.println(words);
    }

    private static String answer(MonitorYard yard, String call) {
        String name = call.split("[ (]")[0];
        int[] n = numbers(call);
        switch (name) {
            case "make":
                return String.valueOf(yard.make(n[0], n[1]));
            case "act":
                return String.valueOf(yard.act(n[0], n[1], n[2], n[3], n[4]));
            case "tick":
                return String.valueOf(yard.tick(n[0]));
            case "interrupt":
                yard.interrupt(n[0]);
                return "";
            case "told":
                return String.valueOf(yard.told(n[0], n[1]));
            case "object":
                return call.contains("(") ? String.valueOf(yard.object(n[0], n[1])) : Snapshot.object(yard, n[0]);
            case "waiter":
                return String.valueOf(yard.waiter(n[0], n[1]));
            case "stuck":
                return String.valueOf(yard.stuck());
            case "count":
                return String.valueOf(yard.count(n[0]));
            case "thread":
                return Snapshot.thread(yard, n[0]);
            case "row":
                return Snapshot.row(yard, n[0]);
            case "counts":
                return Snapshot.counts(yard);
            default:
                throw new AssertionError("no such call: " + call);
        }
    }

    private static int[] numbers(String call) {
        List<Integer> found = new ArrayList<>();
        for (String part : call.split("[^-0-9]+")) {
            if (!part.isEmpty()) {
                found.add(Integer.parseInt(part));
            }
        }
        int[] numbers = new int[found.size()];
        for (int i = 0; i < numbers.length; i++) {
            numbers[i] = found.get(i);
        }
        return numbers;
    }
}
