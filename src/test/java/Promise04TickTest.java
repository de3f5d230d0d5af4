/** Promise 4: tick. */
public final class Promise04TickTest {
    public static void main(String[] args) {
        Runs runs = new Runs("Promise 4: tick");
        runs.run("1 to 50 ticks", """
            tick(0) -> throws.IllegalArgumentException
            tick(-1) -> throws.IllegalArgumentException
            tick(51) -> throws.IllegalArgumentException
            tick(1) -> 0
            tick(50) -> 0
            count(5) -> 51
            """);
        runs.run("patience runs down and ends", """
            make(3, 1) -> 0
            act(0, 0, 11, 0, 100) -> 1
            act(1, 0, 11, 0, 51) -> 1
            act(2, 0, 11, 0, -1) -> 1
            tick(50) -> 0
            told(0, 5) -> 50
            told(1, 5) -> 1
            told(2, 5) -> -1
            tick(1) -> 1
            thread 1 -> 0 2 -1 0 0 -1
            row 0 -> 0 2
            tick(48) -> 0
            tick(50) -> 1
            thread 0 -> 0 2 -1 0 0 -1
            tick(50) -> 0
            thread 2 -> 1 1 0 0 0 -1
            counts -> 1 0 2 0 0 199 5
            """);
        runs.run("many ticks are as many single ones", """
            make(3, 1) -> 0
            act(0, 0, 11, 0, 3) -> 1
            act(1, 0, 11, 0, 1) -> 1
            act(2, 0, 11, 0, 2) -> 1
            act(3, 0, 11, 0, 5) -> 1
            tick(4) -> 3
            told(3, 5) -> 1
            row 0 -> 3
            """);
        sameTick(runs);
        waitingThreads(runs);
        runs.finish();
    }

    private static void sameTick(Runs runs) {
        runs.run("the going of one lets a later one run in the same tick", """
            make(2, 1) -> 0
            act(0, 0, 9, 2, 1) -> 1
            act(1, 0, 9, 1, 1) -> 1
            tick(1) -> 1
            told(0, 1) -> 2
            told(1, 1) -> 0
            object(0, 1) -> 0
            """);
        runs.run("threads go in the order of their numbers, not of the row", """
            make(2, 1) -> 0
            act(1, 0, 9, 2, 1) -> 1
            act(0, 0, 9, 1, 1) -> 1
            tick(1) -> 2
            told(0, 1) -> 2
            told(1, 1) -> 2
            object(0, 1) -> 1
            """);
        runs.run("the first to time out breaks a barrier before the others do", """
            make(4, 3) -> 0
            act(3, 0, 13, 0, 2) -> 1
            act(1, 0, 13, 0, 2) -> 1
            tick(2) -> 1
            told(1, 1) -> 2
            told(3, 1) -> 3
            """);
    }

    private static void waitingThreads(Runs runs) {
        runs.run("one waiting has the lock again before it runs, timed out", """
            make(0, 1) -> 0
            2 x act(0, 0, 0, 0, -1) -> 0
            act(0, 0, 2, 1, 2) -> 1
            act(1, 0, 0, 0, -1) -> 0
            tick(1) -> 0
            thread 0 -> 2 1 0 0 0 1
            tick(1) -> 1                        # its patience ends now
            thread 0 -> 1 1 0 0 0 -1
            object 0 -> 0 1 1 1 0 0 0 0
            count(2) -> 0                       # but its act doesn't, yet
            tick(50) -> 0
            act(1, 0, 1, 0, -1) -> 0
            thread 0 -> 0 2 -1 0 0 -1
            object 0 -> 0 2 0 0 0 0 0 0
            count(2) -> 1
            """);
        runs.run("of two that wait, one has the lock at once and the other behind it", """
            make(0, 1) -> 0
            act(1, 0, 0, 0, -1) -> 0
            act(1, 0, 2, 0, 3) -> 1
            act(0, 0, 0, 0, -1) -> 0
            act(0, 0, 2, 0, 3) -> 1
            tick(3) -> 2
            thread 0 -> 0 2 -1 0 0 -1
            thread 1 -> 1 1 0 0 0 -1
            object 0 -> 0 1 0 1 0 0 0 0
            """);
        runs.run("having timed out once says nothing of the next act", """
            make(0, 1) -> 0
            act(0, 0, 0, 0, -1) -> 0
            act(0, 0, 2, 0, 1) -> 1
            tick(1) -> 1
            told(0, 1) -> 2
            act(0, 0, 1, 0, -1) -> 0
            act(1, 0, 0, 0, -1) -> 0
            act(0, 0, 0, 0, -1) -> 1
            act(1, 0, 1, 0, -1) -> 0
            thread 0 -> 0 0 -1 0 0 -1
            """);
        runs.run("one that was called in time doesn't time out any more", """
            make(0, 1) -> 0
            act(0, 0, 0, 0, -1) -> 0
            act(0, 0, 2, 0, 2) -> 1
            act(1, 0, 0, 0, -1) -> 0
            tick(1) -> 0
            act(1, 0, 3, 0, -1) -> 0
            told(0, 5) -> -1
            tick(5) -> 0
            act(1, 0, 1, 0, -1) -> 0
            told(0, 1) -> 0
            """);
    }
}
