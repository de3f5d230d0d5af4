/** The promises 6 and 7, sentence by sentence, at their edges. */
public final class BoundaryToldObjectTest {
    public static void main(String[] args) {
        Runs runs = new Runs("Boundaries: told and object");
        told(runs);
        object(runs);
        runs.finish();
    }

    private static void told(Runs runs) {
        runs.sentence("Of THREAD t: 0 it RUNS, 1 BLOCKED, 2 it WAITS (what 0); the OUTCOME of its latest ACT, 1 if that "
            + "isn't ended, 0 before the first (1); the OBJECT where it's BLOCKED or WAITS, -1 for none (2); its VALUE, "
            + "0 at first (3); 1 if it's MARKED (4); TICKS of PATIENCE left, -1 without end and where nothing ends (5).");
        runs.run("numbers out of range", """
            told(0, -1) -> throws.IllegalArgumentException
            told(0, 6) -> throws.IllegalArgumentException
            told(0, -2147483648) -> throws.IllegalArgumentException
            told(0, 2147483647) -> throws.IllegalArgumentException
            told(-1, 0) -> throws.IllegalArgumentException
            told(6, 0) -> throws.IllegalArgumentException
            """);
        runs.run("before the first act", """
            thread 0 -> 0 0 -1 0 0 -1
            thread 5 -> 0 0 -1 0 0 -1
            """);
        runs.run("running, blocked, waiting, blocked to take the lock again, running", """
            make(3, 1) -> 0
            make(0, 1) -> 1
            act(0, 1, 0, 0, 100) -> 0
            thread 0 -> 0 0 -1 0 0 -1
            act(1, 1, 0, 0, 100) -> 1
            thread 1 -> 1 1 1 0 0 100
            act(0, 1, 2, 0, 100) -> 1
            thread 0 -> 2 1 1 0 0 100
            thread 1 -> 0 0 -1 0 0 -1
            tick(50) -> 0
            thread 0 -> 2 1 1 0 0 50
            act(1, 1, 3, 0, -1) -> 0
            thread 0 -> 1 1 1 0 0 -1
            act(1, 1, 1, 0, -1) -> 0
            thread 0 -> 0 0 -1 0 0 -1
            act(1, 0, 11, 0, -1) -> 1
            thread 1 -> 1 1 0 0 0 -1
            """);
        runs.run("the object's number, from the first to the last", """
            make(3, 1) -> 0
            make(3, 1) -> 1
            make(3, 1) -> 2
            make(3, 1) -> 3
            make(3, 1) -> 4
            make(3, 1) -> 5
            act(0, 5, 11, 0, -1) -> 1
            act(5, 0, 11, 0, -1) -> 1
            told(0, 2) -> 5
            told(5, 2) -> 0
            told(1, 2) -> -1
            """);
        runs.run("the latest act's outcome: each one, and a refused act is none", """
            make(4, 2) -> 0
            make(2, 1) -> 1
            act(0, 1, 9, 2, 0) -> 2
            told(0, 1) -> 2
            interrupt(0)
            act(0, 0, 13, 0, -1) -> 4
            told(0, 1) -> 4
            act(0, 0, 13, 0, -1) -> 3
            told(0, 1) -> 3
            act(0, 0, 9, 1, -1) -> throws.UnsupportedOperationException
            told(0, 1) -> 3
            act(0, 0, 14, 0, -1) -> 0
            told(0, 1) -> 0
            act(0, 1, 9, 2, -1) -> 1
            told(0, 1) -> 1
            """);
        runs.run("the value is of takes that were granted, at once or in the row", """
            make(5, 1) -> 0
            act(0, 0, 16, 0, 0) -> 2
            told(0, 3) -> 0
            act(0, 0, 16, 9, -1) -> 1
            told(0, 3) -> 0
            act(1, 0, 15, -7, -1) -> 0
            told(0, 3) -> -7
            told(1, 3) -> 0
            act(0, 0, 15, 8, -1) -> 0
            told(0, 3) -> -7
            act(0, 0, 16, 9, -1) -> 0
            told(0, 3) -> 8
            act(0, 0, 16, 9, 1) -> 1
            told(0, 3) -> 8
            tick(1) -> 1
            told(0, 3) -> 8
            """);
        runs.run("the patience that is left, down to the last tick", """
            make(3, 1) -> 0
            act(0, 0, 11, 0, 3) -> 1
            told(0, 5) -> 3
            tick(1) -> 0
            told(0, 5) -> 2
            tick(1) -> 0
            told(0, 5) -> 1
            tick(1) -> 1
            told(0, 5) -> -1
            act(0, 0, 11, 0, 0) -> 2
            told(0, 5) -> -1
            """);
    }

    private static void object(Runs runs) {
        runs.sentence("Of OBJECT o: its kind (what 0); how often the LOCK is HELD, or WRITTEN, PERMITS, where the LATCH "
            + "is, how many ARRIVED, or ints in the QUEUE (1); the THREAD that HOLDS or WRITES, -1 for none (2); ACTS in "
            + "its ROW (3); THREADS at CONDITION 0, 1 (4, 5); how often it's READ in all (6); 1 if it's BROKEN (7); "
            + "0 where it isn't of that kind.");
        runs.run("numbers out of range", """
            object(0, 0) -> throws.IllegalArgumentException
            make(0, 1) -> 0
            object(0, -1) -> throws.IllegalArgumentException
            object(0, 8) -> throws.IllegalArgumentException
            object(0, -2147483648) -> throws.IllegalArgumentException
            object(0, 2147483647) -> throws.IllegalArgumentException
            object(-1, 0) -> throws.IllegalArgumentException
            object(1, 0) -> throws.IllegalArgumentException
            object(-2147483648, 0) -> throws.IllegalArgumentException
            object(2147483647, 0) -> throws.IllegalArgumentException
            """);
        runs.run("each kind at first, -1 and 0 where there is nothing", """
            make(0, 3) -> 0
            make(1, 3) -> 1
            make(2, 3) -> 2
            make(3, 3) -> 3
            make(4, 3) -> 4
            make(5, 3) -> 5
            object 0 -> 0 0 -1 0 0 0 0 0
            object 1 -> 1 0 -1 0 0 0 0 0
            object 2 -> 2 3 0 0 0 0 0 0
            object 3 -> 3 3 0 0 0 0 0 0
            object 4 -> 4 0 0 0 0 0 0 0
            object 5 -> 5 0 0 0 0 0 0 0
            """);
        runs.run("a lock: held by the last thread, and with threads at both conditions", """
            make(0, 1) -> 0
            act(0, 0, 0, 0, -1) -> 0
            act(0, 0, 2, 0, -1) -> 1
            act(1, 0, 0, 0, -1) -> 0
            act(1, 0, 2, 1, -1) -> 1
            act(2, 0, 0, 0, -1) -> 0
            act(2, 0, 2, 1, -1) -> 1
            3 x act(5, 0, 0, 0, -1) -> 0
            act(3, 0, 0, 0, -1) -> 1
            object 0 -> 0 3 5 1 1 2 0 0
            """);
        runs.run("a book: written twice and read thrice by the first thread", """
            make(1, 1) -> 0
            2 x act(0, 0, 7, 0, -1) -> 0
            3 x act(0, 0, 5, 0, -1) -> 0
            act(1, 0, 5, 0, -1) -> 1
            act(2, 0, 7, 0, -1) -> 1
            object 0 -> 1 2 0 2 0 0 3 0
            2 x act(0, 0, 8, 0, -1) -> 0
            object 0 -> 1 0 -1 1 0 0 4 0
            """);
        runs.run("a semaphore, a latch and a queue with acts in their rows", """
            make(2, 2) -> 0
            make(3, 2) -> 1
            make(5, 1) -> 2
            act(0, 0, 9, 3, -1) -> 1
            act(1, 1, 12, 0, -1) -> 0
            act(1, 1, 11, 0, -1) -> 1
            act(2, 2, 15, 9, -1) -> 0
            act(2, 2, 15, 9, -1) -> 1
            act(3, 2, 15, 9, -1) -> 1
            object 0 -> 2 2 0 1 0 0 0 0
            object 1 -> 3 1 0 1 0 0 0 0
            object 2 -> 5 1 0 2 0 0 0 0
            """);
        runs.run("a barrier: those who arrived are those in its row; broken; whole again", """
            make(4, 3) -> 0
            act(5, 0, 13, 0, -1) -> 1
            object 0 -> 4 1 0 1 0 0 0 0
            act(4, 0, 13, 0, -1) -> 1
            object 0 -> 4 2 0 2 0 0 0 0
            interrupt(5)
            object 0 -> 4 0 0 0 0 0 0 1
            act(5, 0, 14, 0, -1) -> 0
            object 0 -> 4 0 0 0 0 0 0 0
            """);
    }
}
