/** Terms: THREADS, OBJECTS and their ROWS, sentence by sentence, at their edges. */
public final class BoundaryThreadsObjectsTest {
    public static void main(String[] args) {
        Runs runs = new Runs("Boundaries: threads and objects");
        threads(runs);
        statesOfThreads(runs);
        outcomes(runs);
        objects(runs);
        grantedAtOnce(runs);
        rowGoneThrough(runs);
        runs.finish();
    }

    private static void threads(Runs runs) {
        runs.sentence("THREADS 0 .. 5.");
        runs.run("the first and the last", """
            make(3, 1) -> 0
            act(0, 0, 12, 0, -1) -> 0
            act(5, 0, 12, 0, -1) -> 0
            interrupt(0)
            interrupt(5)
            told(0, 4) -> 1
            told(1, 4) -> 0
            told(4, 4) -> 0
            told(5, 4) -> 1
            count(6) -> 6
            """);
        for (int t : new int[] {-1, 6, 7, -2147483648, 2147483647}) {
            runs.run("thread " + t, """
                make(3, 1) -> 0
                act(%1$d, 0, 12, 0, -1) -> throws.IllegalArgumentException
                interrupt(%1$d) -> throws.IllegalArgumentException
                told(%1$d, 0) -> throws.IllegalArgumentException
                """.formatted(t));
        }
    }

    private static void statesOfThreads(Runs runs) {
        runs.sentence("A THREAD RUNS, or is BLOCKED (in the ROW of an OBJECT), or WAITS (at a CONDITION).");
        runs.run("each of the three", """
            make(0, 1) -> 0
            act(0, 0, 0, 0, -1) -> 0
            told(0, 0) -> 0
            act(1, 0, 0, 0, -1) -> 1
            told(1, 0) -> 1
            row 0 -> 1
            act(0, 0, 2, 1, -1) -> 1
            told(0, 0) -> 2
            row 0 -> none
            object(0, 5) -> 1
            told(1, 0) -> 0
            """);
    }

    private static void outcomes(Runs runs) {
        runs.sentence("It does one ACT after another; an ACT that can't be GRANTED at once BLOCKS it; its OUTCOME, "
            + "when it RUNS again, is DONE (0), TIMED OUT (2), BROKEN (3) or INTERRUPTED (4).");
        runs.run("every outcome of one that was blocked", """
            make(4, 2) -> 0
            make(3, 1) -> 1
            act(0, 0, 13, 0, -1) -> 1
            told(0, 1) -> 1
            act(0, 1, 12, 0, -1) -> throws.IllegalStateException     # one act after another
            act(1, 0, 13, 0, -1) -> 0
            told(0, 1) -> 0
            act(0, 1, 11, 0, 1) -> 1
            tick(1) -> 1
            told(0, 1) -> 2
            act(0, 0, 13, 0, -1) -> 1
            act(1, 0, 14, 0, -1) -> 0
            told(0, 1) -> 3
            act(0, 1, 11, 0, -1) -> 1
            interrupt(0)
            told(0, 1) -> 4
            counts -> 2 3 1 1 1 1 6
            """);
    }

    private static void objects(Runs runs) {
        runs.sentence("OBJECTS, at most 6, numbered from 0 as they come, have a kind and a SIZE (1 .. 3) each, "
            + "and a ROW of ACTS waiting, the oldest first.");
        runs.run("none, six, and no seventh", """
            count(0) -> 0
            object(0, 0) -> throws.IllegalArgumentException
            make(0, 1) -> 0
            object(0, 0) -> 0
            object(1, 0) -> throws.IllegalArgumentException
            make(1, 2) -> 1
            make(2, 3) -> 2
            make(3, 3) -> 3
            make(4, 1) -> 4
            object(5, 0) -> throws.IllegalArgumentException
            make(5, 2) -> 5
            object(5, 0) -> 5
            make(0, 1) -> throws.IllegalStateException
            object(6, 0) -> throws.IllegalArgumentException
            object(-1, 0) -> throws.IllegalArgumentException
            count(0) -> 6
            """);
        runs.run("six acts in one row, and a row for each object", """
            make(3, 1) -> 0
            make(3, 1) -> 1
            act(5, 0, 11, 0, -1) -> 1
            act(3, 0, 11, 0, -1) -> 1
            act(4, 0, 11, 0, -1) -> 1
            act(0, 0, 11, 0, -1) -> 1
            act(2, 0, 11, 0, -1) -> 1
            act(1, 0, 11, 0, -1) -> 1
            row 0 -> 5 3 4 0 2 1
            row 1 -> none
            count(6) -> 0
            interrupt(5)
            act(5, 0, 11, 0, -1) -> 1
            row 0 -> 3 4 0 2 1 5
            interrupt(0)
            act(0, 1, 11, 0, -1) -> 1
            row 0 -> 3 4 2 1 5
            row 1 -> 0
            """);
    }

    private static void grantedAtOnce(Runs runs) {
        runs.sentence("An ACT is GRANTED at once if it can be, and no ACT of its SORT is in the ROW "
            + "(all ACTS of an OBJECT are of one SORT, but PUT and TAKE are two).");
        runs.run("an ask that could be stays behind one that couldn't", """
            make(2, 2) -> 0
            act(0, 0, 9, 3, -1) -> 1
            act(1, 0, 9, 1, 0) -> 2
            act(1, 0, 9, 2, -1) -> 1
            row 0 -> 0 1
            object(0, 1) -> 2
            """);
        runs.run("a read stays behind a write, for they are of one sort", """
            make(1, 1) -> 0
            act(0, 0, 5, 0, -1) -> 0
            act(1, 0, 7, 0, -1) -> 1
            act(2, 0, 5, 0, 0) -> 2
            act(2, 0, 5, 0, -1) -> 1
            row 0 -> 1 2
            """);
        runs.run("a put passes takes, but takes don't pass one another", """
            make(5, 1) -> 0
            act(0, 0, 16, 0, -1) -> 1
            act(1, 0, 16, 0, -1) -> 1
            act(2, 0, 15, 4, 0) -> 0
            told(0, 3) -> 4
            told(1, 0) -> 1
            row 0 -> 1
            """);
        runs.run("a take passes puts, but puts don't pass one another", """
            make(5, 1) -> 0
            act(0, 0, 15, 4, -1) -> 0
            act(1, 0, 15, 5, -1) -> 1
            act(2, 0, 15, 6, -1) -> 1
            act(3, 0, 16, 0, 0) -> 0
            told(3, 3) -> 4
            told(1, 0) -> 0
            row 0 -> 2
            act(3, 0, 16, 0, 0) -> 0
            told(3, 3) -> 5
            """);
        runs.run("a row holds up no act at another object of the kind", """
            make(2, 1) -> 0
            make(2, 1) -> 1
            act(0, 0, 9, 3, -1) -> 1
            act(1, 1, 9, 1, 0) -> 0
            """);
    }

    private static void rowGoneThrough(Runs runs) {
        runs.sentence("Whenever something of an OBJECT has changed: its ROW is gone through from the oldest on, "
            + "GRANTING what can be, but nothing of a SORT one of which before it couldn't; and again, until "
            + "nothing was GRANTED; those THREADS RUN, DONE.");
        runs.run("from the oldest on, up to one that can't be", """
            make(2, 1) -> 0
            act(3, 0, 9, 2, -1) -> 1
            act(2, 0, 9, 1, 7) -> 1
            act(1, 0, 9, 3, -1) -> 1
            act(0, 0, 9, 1, -1) -> 1
            act(4, 0, 10, 3, -1) -> 0           # 4: two go to 3 and one to 2; 1 can't, so 0 stays
            object 0 -> 2 1 0 2 0 0 0 0
            row 0 -> 1 0
            thread 3 -> 0 0 -1 0 0 -1
            thread 2 -> 0 0 -1 0 0 -1
            act(4, 0, 10, 3, -1) -> 0           # 4: three go to 1 and one to 0
            object 0 -> 2 0 0 0 0 0 0 0
            counts -> 1 6 0 0 0 0 6
            """);
        runs.run("nothing of a sort behind one that couldn't", """
            make(2, 1) -> 0
            act(0, 0, 9, 3, -1) -> 1
            act(1, 0, 9, 1, -1) -> 1
            act(2, 0, 10, 1, -1) -> 0
            object 0 -> 2 2 0 2 0 0 0 0
            row 0 -> 0 1
            """);
        runs.run("also when one has been interrupted or has timed out", """
            make(2, 1) -> 0
            act(0, 0, 9, 3, -1) -> 1
            act(1, 0, 9, 2, 4) -> 1
            act(2, 0, 9, 1, -1) -> 1
            interrupt(0)
            row 0 -> 1 2
            tick(4) -> 1
            row 0 -> none
            told(2, 1) -> 0
            object(0, 1) -> 0
            act(0, 0, 10, 1, -1) -> 0
            act(0, 0, 9, 2, -1) -> 1
            act(1, 0, 9, 1, -1) -> 1
            interrupt(0)
            told(1, 1) -> 0
            object 0 -> 2 0 0 0 0 0 0 0
            """);
        runs.run("one behind the other until the queue is full again", """
            make(5, 2) -> 0
            2 x act(0, 0, 15, 1, -1) -> 0
            act(1, 0, 15, 2, -1) -> 1
            act(2, 0, 15, 3, -1) -> 1
            act(0, 0, 16, 0, -1) -> 0
            row 0 -> 2
            object(0, 1) -> 2
            """);
        runs.run("a row at another object isn't touched", """
            make(3, 1) -> 0
            make(3, 1) -> 1
            act(0, 0, 11, 0, -1) -> 1
            act(1, 1, 11, 0, -1) -> 1
            act(2, 0, 12, 0, -1) -> 0
            told(0, 0) -> 0
            told(1, 0) -> 1
            """);
    }
}
