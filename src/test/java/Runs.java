import java.util.ArrayList;
import java.util.List;

/**
 * Runs of calls written as text, a call a line, each run on a new yard:
 *
 * <pre>
 * act(0, 0, 0, 0, -1) -> 0                            a call and the answer that is due
 * act(1, 0, 1, 0, -1) -> throws.IllegalStateException  or what it throws
 * interrupt(4)                                        no answer, nothing thrown
 * 3 x tick(1) -> 0                                    the same line three times
 * thread 0 -> 1 1 0 0 0 -1                            told(0, 0) to told(0, 5)
 * object 0 -> 0 1 1 1 0 1 0 0                         object(0, 0) to object(0, 7)
 * row 0 -> 1 2                                        waiter(0, 0), waiter(0, 1); 'none' if it's empty
 * counts -> 1 13 3 0 0 5 5                            count(0) to count(6)
 * # words behind a number sign are passed over
 * </pre>
 *
 * A call that throws, and one that only asks, must change nothing: neither what a yard tells right
 * behind it (looked at on yards of their own, for a yard is good for 512 calls), nor the answers of
 * the calls behind it (the run is made again without such calls).
 */
final class Runs {
    private final String title;
    private String heading = "";
    private boolean headingHasRun = true;
    private int lines;
    private int wrong;

    private Yard yard;
    private int cost;
    private List<Call> changes;
    private List<String> answers;

    Runs(String title) {
        this.title = title;
    }

    /** The sentence of the document that the runs behind it are a test of. */
    void sentence(String words) {
        requireRunsOfHeading();
        if (Document.isThere() && !Document.has(words)) {
            complain(title + ": the document doesn't say: " + words);
        }
        heading = ", \"" + words + "\"";
        headingHasRun = false;
    }

    void run(String name, String text) {
        headingHasRun = true;
        yard = Yard.ofClass();
        cost = 0;
        changes = new ArrayList<>();
        answers = new ArrayList<>();
        int number = 0;
        for (String raw : text.split("\n")) {
            number++;
            String line = raw.replaceAll("#.*", "").trim();
            if (!line.isEmpty()) {
                runLine(line, title + heading + ", " + name + ", line " + number);
            }
        }
        if (cost > Call.MOST_OF_A_YARD) {
            complain(title + heading + ", " + name + ": a yard is used for 512 calls at most");
        }
        requireSameAnswersOfChangesAlone(title + heading + ", " + name);
    }

    /** Ends the program, with exit code 1 if an answer was not the one that was due. */
    void finish() {
        requireRunsOfHeading();
        System.out.println(title + ": " + lines + " lines, " + wrong + " wrong");
        System.exit(wrong == 0 && lines > 0 ? 0 : 1);
    }

    private void runLine(String line, String where) {
        String[] sides = line.split("->");
        String call = sides[0].trim();
        String due = sides.length > 1 ? sides[1].trim() : "";
        int times = 1;
        if (call.matches("\\d+ x .*")) {
            times = Integer.parseInt(call.substring(0, call.indexOf(' ')));
            call = call.substring(call.indexOf('x') + 1).trim();
        }
        for (int i = 0; i < times; i++) {
            check(new Call(call), due, where);
        }
    }

    private void check(Call call, String due, String where) {
        lines++;
        cost += call.cost();
        String got = call.answerOn(yard);
        if (!got.equals(due)) {
            complain(where + ": " + call + " answered " + got + ", due is " + due);
        }
        if (call.onlyAsks() || got.startsWith("throws.")) {
            requireNoChange(call, where);
        } else {
            changes.add(call);
            answers.add(got);
        }
    }

    private void requireNoChange(Call call, String where) {
        if (changes.size() + call.cost() + View.COST > Call.MOST_OF_A_YARD) {
            return;
        }
        String before = whatIsTold(Call.yardAfter(changes));
        Yard touched = Call.yardAfter(changes);
        call.answerOn(touched);
        String after = whatIsTold(touched);
        if (!before.equals(after)) {
            complain(where + ": " + call + " changed\n" + before + "into\n" + after);
        }
    }

    private static String whatIsTold(Yard yard) {
        try {
            return new View(yard).toString();
        } catch (RuntimeException e) {
            return "throws." + e.getClass().getSimpleName();
        }
    }

    private void requireSameAnswersOfChangesAlone(String where) {
        Yard again = Yard.ofClass();
        for (int i = 0; i < changes.size(); i++) {
            String got = changes.get(i).answerOn(again);
            if (!got.equals(answers.get(i))) {
                complain(where + ": " + changes.get(i) + " answered " + answers.get(i) + ", but " + got
                    + " without the calls that threw or only asked");
            }
        }
    }

    private void requireRunsOfHeading() {
        if (!headingHasRun) {
            complain(title + heading + ": no run is a test of it");
        }
    }

    private void complain(String words) {
        wrong++;
        System.out.println(words);
    }
}
