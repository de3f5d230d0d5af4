import java.util.NoSuchElementException;
import java.util.Random;

/**
 * Long random runs, with good and bad numbers: nothing but what the document names is thrown, a
 * call that throws changes nothing, and after every call what the yard tells fits together.
 */
public final class RandomRunsTest {
    private static final int RUNS = 400;
    private static final int CALLS = 512;
    private static final int[] FIRST_ACT = {0, 5, 9, 11, 13, 15, 17};

    private final Random random;
    private final MonitorYard yard = new MonitorYard();
    private final StringBuilder history = new StringBuilder();
    private final int[] sizes = new int[6];
    private int begun;

    private RandomRunsTest(int seed) {
        random = new Random(seed);
    }

    public static void main(String[] args) {
        for (int seed = 0; seed < RUNS; seed++) {
            RandomRunsTest test = new RandomRunsTest(seed);
            try {
                test.run();
            } catch (RuntimeException | AssertionError e) {
                System.out.println("run " + seed + ": " + e + " after\n" + test.history);
                System.exit(1);
            }
        }
        System.out.println("Random runs: " + RUNS + " runs as they should be");
    }

    private void run() {
        for (int i = 0; i < CALLS; i++) {
            String before = Snapshot.of(yard);
            if (!callSomething()) {
                require(before.equals(Snapshot.of(yard)), "a call that throws changes nothing");
            }
            checkThreads();
            for (int o = 0; o < yard.count(0); o++) {
                checkObject(o);
            }
            require(yard.stuck() == stuckByWhatIsTold(), "stuck threads");
        }
    }

    /** Whether the call answered; false if it threw what the document lets it throw. */
    private boolean callSomething() {
        int choice = random.nextInt(100);
        try {
            if (choice < 6) {
                make(random.nextInt(8) - 1, random.nextInt(5));
            } else if (choice < 14) {
                int n = random.nextInt(20) == 0 ? random.nextInt(54) - 1 : 1 + random.nextInt(3);
                history.append("tick(" + n + ")\n");
                yard.tick(n);
            } else if (choice < 22) {
                int t = random.nextInt(30) == 0 ? 6 : random.nextInt(6);
                history.append("interrupt(" + t + ")\n");
                yard.interrupt(t);
            } else {
                act(choice < 26);
            }
            return true;
        } catch (IllegalArgumentException | IllegalStateException | UnsupportedOperationException e) {
            return false;
        }
    }

    private void make(int kind, int size) {
        history.append("make(" + kind + ", " + size + ")\n");
        sizes[yard.make(kind, size)] = size;
    }

    private void act(boolean wild) {
        int objects = yard.count(0);
        int t = random.nextInt(wild ? 7 : 6);
        int o = wild || objects == 0 ? random.nextInt(7) : random.nextInt(objects);
        int act = random.nextInt(19) - 1;
        if (!wild && o < objects) {
            int kind = yard.object(o, 0);
            act = FIRST_ACT[kind] + random.nextInt(FIRST_ACT[kind + 1] - FIRST_ACT[kind]);
        }
        int arg = random.nextInt(wild ? 5 : 2) + (act == 9 || act == 10 ? random.nextInt(3) : 0);
        int patience = wild ? random.nextInt(104) - 2 : random.nextInt(12) - 1;
        history.append("act(" + t + ", " + o + ", " + act + ", " + arg + ", " + patience + ")\n");
        int outcome = yard.act(t, o, act, arg, patience);
        begun++;
        require(outcome == yard.told(t, 1), "act answers the outcome that is told");
    }

    private void checkThreads() {
        int running = 0;
        for (int t = 0; t < 6; t++) {
            int state = yard.told(t, 0);
            int o = yard.told(t, 2);
            running += state == 0 ? 1 : 0;
            require((state == 0) == (yard.told(t, 1) != 1), "an act is ended when its thread runs");
            require((state == 0) == (o == -1), "a thread is nowhere when it runs");
            require(state != 0 || yard.told(t, 5) == -1, "no patience is left when nothing ends");
            require(yard.told(t, 5) != 0, "patience that is at its end has ended");
            require(state != 2 || yard.object(o, 0) == 0, "threads wait at locks alone");
        }
        require(running == yard.count(6), "threads that run");
        int ended = yard.count(1) + yard.count(2) + yard.count(3) + yard.count(4);
        require(ended + 6 - running == begun, "every act is ended or holds its thread");
    }

    private void checkObject(int o) {
        int blocked = 0;
        int waiting = 0;
        for (int t = 0; t < 6; t++) {
            if (yard.told(t, 2) == o) {
                blocked += yard.told(t, 0) == 1 ? 1 : 0;
                waiting += yard.told(t, 0) == 2 ? 1 : 0;
            }
        }
        require(blocked == yard.object(o, 3), "acts in the row");
        require(waiting == yard.object(o, 4) + yard.object(o, 5), "threads at conditions");
        checkRow(o, blocked);
        checkKind(o, blocked);
    }

    private void checkRow(int o, int length) {
        for (int i = 0; i < length; i++) {
            int t = yard.waiter(o, i);
            require(yard.told(t, 0) == 1 && yard.told(t, 2) == o, "one in the row is blocked there");
        }
        try {
            yard.waiter(o, length);
        } catch (NoSuchElementException e) {
            return;
        }
        require(false, "nobody behind the row's end");
    }

    /** The bounds of each kind, and that nobody is in a row who could go on. */
    private void checkKind(int o, int inRow) {
        int level = yard.object(o, 1);
        int owner = yard.object(o, 2);
        switch (yard.object(o, 0)) {
            case 0:
                require((level > 0) == (owner != -1), "a lock is held by its holder");
                require(inRow == 0 || level > 0, "nobody waits for a free lock");
                break;
            case 1:
                require((level > 0) == (owner != -1), "a book is written by its writer");
                require(inRow == 0 || level + yard.object(o, 6) > 0, "nobody waits for a free book");
                break;
            case 2:
                require(level >= 0 && level <= 50, "0 to 50 permits");
                require(inRow == 0 || level < 3, "nobody waits for permits that are there");
                break;
            case 3:
                require(level >= 0 && level <= sizes[o], "a latch goes down");
                require(inRow == 0 || level > 0, "nobody stands at an open latch");
                break;
            case 4:
                require(level == inRow && inRow < sizes[o], "a full barrier lets all go");
                require(inRow == 0 || yard.object(o, 7) == 0, "nobody is in a broken barrier");
                break;
            default:
                require(level >= 0 && level <= sizes[o], "a queue keeps to its size");
                require(inRow == 0 || level == 0 || level == sizes[o], "nobody waits at a queue with room");
                break;
        }
    }

    private int stuckByWhatIsTold() {
        int stuck = 0;
        for (int t = 0; t < 6; t++) {
            int reached = leansOn(t);
            for (int i = 0; i < 6 && reached != -1 && reached != t; i++) {
                reached = leansOn(reached);
            }
            stuck += reached == t ? 1 : 0;
        }
        return stuck;
    }

    private int leansOn(int t) {
        int o = yard.told(t, 2);
        return yard.told(t, 0) == 1 && yard.object(o, 0) == 0 ? yard.object(o, 2) : -1;
    }

    private static void require(boolean holds, String what) {
        if (!holds) {
            throw new AssertionError("not so: " + what);
        }
    }
}
