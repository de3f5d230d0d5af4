import java.util.ArrayList;
import java.util.List;

/**
 * Long random runs, with good and bad numbers: nothing but what the document names is thrown, a
 * call that throws changes nothing, and after every call what the yard tells fits together. Each
 * call is looked at on a yard of its own, on which the calls before it were made again, for a yard
 * is good for 512 calls.
 */
public final class RandomRunsTest {
    private static final int RUNS = 250;
    private static final int CALLS = Call.MOST_OF_A_YARD - View.COST;
    private static final List<String> MAY_BE_THROWN = List.of("throws.IllegalArgumentException",
        "throws.IllegalStateException", "throws.UnsupportedOperationException", "throws.NoSuchElementException");

    private final AnyCalls anyCalls;
    private final List<Call> calls = new ArrayList<>();
    private final int[] sizes = new int[6];
    private View view = new View(Yard.ofClass());
    private int begun;

    private RandomRunsTest(int seed) {
        anyCalls = new AnyCalls(seed);
    }

    public static void main(String[] args) {
        for (int seed = 0; seed < RUNS; seed++) {
            RandomRunsTest test = new RandomRunsTest(seed);
            try {
                test.run();
            } catch (RuntimeException | AssertionError e) {
                System.out.println("run " + seed + ": " + e + " after\n" + test.calls);
                System.exit(1);
            }
        }
        System.out.println("Random runs: " + RUNS + " runs as they should be");
    }

    private void run() {
        for (int i = 0; i < CALLS; i++) {
            Call call = anyCalls.next(view);
            Yard yard = Call.yardAfter(calls);
            String answer = call.answerOn(yard);
            View after = new View(yard);
            if (answer.startsWith("throws.")) {
                require(MAY_BE_THROWN.contains(answer), call + " " + answer);
                require(view.toString().equals(after.toString()), "a call that throws changes nothing: " + call);
            } else {
                calls.add(call);
                view = after;
                noteWhatWasDone(call.toString(), answer);
                checkView();
            }
        }
    }

    private void noteWhatWasDone(String call, String answer) {
        String[] parts = call.split("[^-a-z0-9]+");
        if (parts[0].equals("make")) {
            sizes[Integer.parseInt(answer)] = Integer.parseInt(parts[2]);
        } else if (parts[0].equals("act")) {
            begun++;
            int outcome = view.threads[Integer.parseInt(parts[1])][1];
            require(answer.equals(String.valueOf(outcome)), "act answers the outcome that is told");
        }
    }

    private void checkView() {
        checkThreads();
        for (int o = 0; o < view.counts[0]; o++) {
            checkRow(o);
            checkKind(o, view.objects[o], view.rows[o].length);
        }
        require(view.stuck == stuckByWhatIsTold(), "stuck threads");
    }

    private void checkThreads() {
        int running = 0;
        for (int[] thread : view.threads) {
            boolean runs = thread[0] == 0;
            running += runs ? 1 : 0;
            require(runs == (thread[1] != 1), "an act is ended when its thread runs");
            require(runs == (thread[2] == -1), "a thread is nowhere when it runs");
            require(!runs || thread[5] == -1, "no patience is left when nothing ends");
            require(thread[5] != 0, "patience that is at its end has ended");
            require(thread[0] != 2 || view.objects[thread[2]][0] == 0, "threads wait at locks alone");
        }
        require(running == view.counts[6], "threads that run");
        int ended = view.counts[1] + view.counts[2] + view.counts[3] + view.counts[4];
        require(ended + 6 - running == begun, "every act is ended or holds its thread");
    }

    private void checkRow(int o) {
        int blocked = 0;
        int waiting = 0;
        for (int[] thread : view.threads) {
            blocked += thread[2] == o && thread[0] == 1 ? 1 : 0;
            waiting += thread[2] == o && thread[0] == 2 ? 1 : 0;
        }
        require(blocked == view.objects[o][3] && blocked == view.rows[o].length, "acts in the row");
        require(waiting == view.objects[o][4] + view.objects[o][5], "threads at conditions");
        for (int t : view.rows[o]) {
            require(view.threads[t][0] == 1 && view.threads[t][2] == o, "one in the row is blocked there");
        }
    }

    /** The bounds of each kind, and that nobody is in a row who could go on. */
    private void checkKind(int o, int[] object, int inRow) {
        int level = object[1];
        int owner = object[2];
        switch (object[0]) {
            case 0:
                require((level > 0) == (owner != -1), "a lock is held by its holder");
                require(inRow == 0 || level > 0, "nobody waits for a free lock");
                break;
            case 1:
                require((level > 0) == (owner != -1), "a book is written by its writer");
                require(inRow == 0 || level + object[6] > 0, "nobody waits for a free book");
                break;
            case 2:
                require(level >= 0 && level <= 50, "0 to 50 permits");
                require(inRow == 0 || level < 3, "nobody waits for permits that are there");
                break;
            case 3:
                require(level >= 0 && level <= sizes[o], "a latch goes down");
                require(inRow == 0 || level > 0, "nobody stands at an open latch");
                break;
            case 4:
                require(level == inRow && inRow < sizes[o], "a full barrier lets all go");
                require(inRow == 0 || object[7] == 0, "nobody is in a broken barrier");
                break;
            default:
                require(level >= 0 && level <= sizes[o], "a queue keeps to its size");
                require(inRow == 0 || level == 0 || level == sizes[o], "nobody waits at a queue with room");
                break;
        }
    }

    private int stuckByWhatIsTold() {
        int stuck = 0;
        for (int t = 0; t < 6; t++) {
            int reached = leansOn(t);
            for (int i = 0; i < 6 && reached != -1 && reached != t; i++) {
                reached = leansOn(reached);
            }
            stuck += reached == t ? 1 : 0;
        }
        return stuck;
    }

    private int leansOn(int t) {
        int o = view.threads[t][2];
        return view.threads[t][0] == 1 && view.objects[o][0] == 0 ? view.objects[o][2] : -1;
    }

    private static void require(boolean holds, String what) {
        if (!holds) {
            throw new AssertionError("not so: " + what);
        }
    }
}
