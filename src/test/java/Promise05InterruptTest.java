/** Promise 5: interrupt. */
public final class Promise05InterruptTest {
    public static void main(String[] args) {
        Runs runs = new Runs("Promise 5: interrupt");
        runs.run("bad numbers", """
            interrupt(-1) -> throws.IllegalArgumentException
            interrupt(6) -> throws.IllegalArgumentException
            interrupt(5)
            told(5, 4) -> 1
            """);
        runs.run("a blocked thread leaves the row, unmarked, and the row moves up", """
            make(2, 1) -> 0
            act(0, 0, 9, 3, 7) -> 1
            act(1, 0, 9, 1, -1) -> 1
            interrupt(0)
            thread 0 -> 0 4 -1 0 0 -1
            thread 1 -> 0 0 -1 0 0 -1
            object 0 -> 2 0 0 0 0 0 0 0
            counts -> 1 1 0 0 1 0 6
            """);
        runs.run("a waiting thread has the lock again before it runs, interrupted", """
            make(0, 1) -> 0
            2 x act(0, 0, 0, 0, -1) -> 0
            act(0, 0, 2, 0, 9) -> 1
            act(1, 0, 0, 0, -1) -> 0
            interrupt(0)
            thread 0 -> 1 1 0 0 0 -1
            object 0 -> 0 1 1 1 0 0 0 0
            count(4) -> 0
            interrupt(0)                        # in the row for the lock it's marked only
            thread 0 -> 1 1 0 0 1 -1
            tick(20) -> 0
            act(1, 0, 1, 0, -1) -> 0
            thread 0 -> 0 4 -1 0 1 -1
            object 0 -> 0 2 0 0 0 0 0 0
            count(4) -> 1
            """);
        runs.run("a waiting thread has a free lock at once", """
            make(0, 1) -> 0
            act(0, 0, 0, 0, -1) -> 0
            act(0, 0, 2, 1, -1) -> 1
            interrupt(0)
            thread 0 -> 0 4 -1 0 0 -1
            object 0 -> 0 1 0 0 0 0 0 0
            """);
        runs.run("one that was called stays so", """
            make(0, 1) -> 0
            act(0, 0, 0, 0, -1) -> 0
            act(0, 0, 2, 1, -1) -> 1
            act(1, 0, 0, 0, -1) -> 0
            act(1, 0, 4, 1, -1) -> 0
            interrupt(0)
            thread 0 -> 1 1 0 0 1 -1
            act(1, 0, 1, 0, -1) -> 0
            thread 0 -> 0 0 -1 0 1 -1
            """);
        markedThreads(runs);
        runs.finish();
    }

    private static void markedThreads(Runs runs) {
        runs.run("the mark stays while acts are granted", """
            make(0, 1) -> 0
            make(2, 1) -> 1
            make(3, 1) -> 2
            interrupt(0)
            interrupt(0)
            act(0, 0, 0, 0, -1) -> 0
            act(0, 0, 3, 0, -1) -> 0
            act(0, 0, 4, 0, -1) -> 0
            act(0, 0, 1, 0, -1) -> 0
            act(0, 1, 9, 1, -1) -> 0
            act(0, 1, 10, 1, -1) -> 0
            act(0, 2, 12, 0, -1) -> 0
            act(0, 2, 11, 0, -1) -> 0
            told(0, 4) -> 1
            count(4) -> 0
            """);
        runs.run("the mark ends the next act that can't be granted, before patience, and is gone", """
            make(2, 1) -> 0
            interrupt(0)
            act(0, 0, 9, 2, 0) -> 4
            thread 0 -> 0 4 -1 0 0 -1
            act(0, 0, 9, 2, 0) -> 2
            interrupt(0)
            act(0, 0, 9, 2, 5) -> 4
            act(0, 0, 9, 2, 5) -> 1
            counts -> 1 0 1 0 2 0 5
            """);
        runs.run("a marked one can't wait; the lock stays held", """
            make(0, 1) -> 0
            2 x act(0, 0, 0, 0, -1) -> 0
            act(1, 0, 0, 0, -1) -> 1
            interrupt(0)
            act(0, 0, 2, 0, 0) -> 4
            object 0 -> 0 2 0 1 0 0 0 0
            thread 0 -> 0 4 -1 0 0 -1
            act(0, 0, 2, 0, -1) -> 1
            """);
        runs.run("waiting without the lock is not now, and the mark stays", """
            make(0, 1) -> 0
            interrupt(0)
            act(0, 0, 2, 0, -1) -> throws.IllegalStateException
            told(0, 4) -> 1
            """);
    }
}
