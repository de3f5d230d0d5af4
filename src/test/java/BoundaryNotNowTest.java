/** Terms: the ACTS that need the LOCK or the BOOK, and those that are never BLOCKED. */
public final class BoundaryNotNowTest {
    public static void main(String[] args) {
        Runs runs = new Runs("Boundaries: acts that are not now, and acts that are never blocked");
        needHolding(runs);
        neverBlocked(runs);
        runs.finish();
    }

    private static void needHolding(Runs runs) {
        runs.sentence("1, 3, 4, 6, 8: it's not now, if the THREAD doesn't HOLD the LOCK, READ or WRITE (2 likewise).");
        runs.run("a free lock", """
            make(0, 1) -> 0
            act(0, 0, 1, 0, -1) -> throws.IllegalStateException
            act(0, 0, 2, 0, -1) -> throws.IllegalStateException
            act(0, 0, 2, 1, 0) -> throws.IllegalStateException
            act(0, 0, 3, 0, -1) -> throws.IllegalStateException
            act(0, 0, 4, 1, -1) -> throws.IllegalStateException
            counts -> 1 0 0 0 0 0 6
            """);
        runs.run("a lock that another holds, or another lock than the thread's", """
            make(0, 1) -> 0
            make(0, 1) -> 1
            act(0, 0, 0, 0, -1) -> 0
            act(1, 1, 0, 0, -1) -> 0
            act(1, 0, 1, 0, -1) -> throws.IllegalStateException
            act(1, 0, 2, 0, -1) -> throws.IllegalStateException
            act(1, 0, 2, 1, 0) -> throws.IllegalStateException
            act(1, 0, 3, 0, -1) -> throws.IllegalStateException
            act(1, 0, 4, 1, -1) -> throws.IllegalStateException
            object 0 -> 0 1 0 0 0 0 0 0
            """);
        runs.run("a lock that the thread has left for the last time", """
            make(0, 1) -> 0
            act(0, 0, 0, 0, -1) -> 0
            act(0, 0, 1, 0, -1) -> 0
            act(0, 0, 1, 0, -1) -> throws.IllegalStateException
            act(0, 0, 2, 0, -1) -> throws.IllegalStateException
            act(0, 0, 3, 0, -1) -> throws.IllegalStateException
            act(0, 0, 4, 0, -1) -> throws.IllegalStateException
            object 0 -> 0 0 -1 0 0 0 0 0
            """);
        runs.run("a book that nobody, or only another, reads or writes", """
            make(1, 1) -> 0
            act(0, 0, 6, 0, -1) -> throws.IllegalStateException
            act(0, 0, 8, 0, -1) -> throws.IllegalStateException
            act(1, 0, 5, 0, -1) -> 0
            act(0, 0, 6, 0, -1) -> throws.IllegalStateException
            act(1, 0, 6, 0, -1) -> 0
            act(1, 0, 7, 0, -1) -> 0
            act(0, 0, 8, 0, -1) -> throws.IllegalStateException
            object 0 -> 1 1 1 0 0 0 0 0
            """);
        runs.run("reading isn't writing, and writing isn't reading", """
            make(1, 1) -> 0
            act(0, 0, 5, 0, -1) -> 0
            act(0, 0, 8, 0, -1) -> throws.IllegalStateException
            act(0, 0, 6, 0, -1) -> 0
            act(0, 0, 7, 0, -1) -> 0
            act(0, 0, 6, 0, -1) -> throws.IllegalStateException
            act(0, 0, 8, 0, -1) -> 0
            act(0, 0, 8, 0, -1) -> throws.IllegalStateException
            """);
    }

    private static void neverBlocked(Runs runs) {
        runs.sentence("These and 2 (but for WAITING), 10, 12 and 14 are never BLOCKED.");
        runs.run("leaving and calling with a row, with patience 0 and marked", """
            make(0, 1) -> 0
            2 x act(0, 0, 0, 0, -1) -> 0
            act(1, 0, 0, 0, -1) -> 1
            interrupt(0)
            act(0, 0, 3, 0, 0) -> 0
            act(0, 0, 4, 0, 0) -> 0
            act(0, 0, 1, 0, 0) -> 0
            act(0, 0, 1, 0, 0) -> 0
            thread 0 -> 0 0 -1 0 1 -1
            object(0, 2) -> 1
            """);
        runs.run("closing with a row, with patience 0 and marked", """
            make(1, 1) -> 0
            act(0, 0, 7, 0, -1) -> 0
            act(0, 0, 5, 0, -1) -> 0
            act(1, 0, 7, 0, -1) -> 1
            interrupt(0)
            act(0, 0, 8, 0, 0) -> 0
            told(1, 0) -> 1
            act(0, 0, 6, 0, 0) -> 0
            thread 0 -> 0 0 -1 0 1 -1
            object(0, 2) -> 1
            """);
        runs.run("waiting with a row: it waits, and isn't in the row", """
            make(0, 1) -> 0
            act(0, 0, 0, 0, -1) -> 0
            act(1, 0, 0, 0, -1) -> 1
            act(2, 0, 0, 0, -1) -> 1
            act(0, 0, 2, 0, 5) -> 1
            told(0, 0) -> 2
            row 0 -> 2
            """);
        runs.run("giving with a row that it doesn't help, with patience 0 and marked", """
            make(2, 1) -> 0
            act(0, 0, 9, 3, -1) -> 1
            interrupt(1)
            act(1, 0, 10, 1, 0) -> 0
            thread 1 -> 0 0 -1 0 1 -1
            object 0 -> 2 2 0 1 0 0 0 0
            """);
        runs.run("down with a row that it doesn't help, with patience 0 and marked", """
            make(3, 2) -> 0
            act(0, 0, 11, 0, -1) -> 1
            interrupt(1)
            act(1, 0, 12, 0, 0) -> 0
            thread 1 -> 0 0 -1 0 1 -1
            object 0 -> 3 1 0 1 0 0 0 0
            """);
        runs.run("a reset with a row and of a broken barrier, with patience 0 and marked", """
            make(4, 3) -> 0
            act(0, 0, 13, 0, -1) -> 1
            interrupt(1)
            act(1, 0, 14, 0, 0) -> 0
            thread 1 -> 0 0 -1 0 1 -1
            act(0, 0, 13, 0, -1) -> 1
            interrupt(0)
            object(0, 7) -> 1
            act(1, 0, 14, 0, 0) -> 0
            thread 1 -> 0 0 -1 0 1 -1
            object 0 -> 4 0 0 0 0 0 0 0
            """);
    }
}
