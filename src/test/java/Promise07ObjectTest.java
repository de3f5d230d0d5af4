/** Promise 7: object. */
public final class Promise07ObjectTest {
    public static void main(String[] args) {
        Runs runs = new Runs("Promise 7: object");
        runs.run("bad numbers", """
            object(0, 0) -> throws.IllegalArgumentException
            make(0, 1) -> 0
            object(-1, 0) -> throws.IllegalArgumentException
            object(1, 0) -> throws.IllegalArgumentException
            object(0, -1) -> throws.IllegalArgumentException
            object(0, 8) -> throws.IllegalArgumentException
            object(0, 7) -> 0
            """);
        runs.run("a lock, whose size doesn't matter", """
            make(0, 3) -> 0
            act(5, 0, 0, 0, -1) -> 0
            act(5, 0, 2, 0, -1) -> 1
            act(4, 0, 0, 0, -1) -> 0
            act(4, 0, 2, 1, -1) -> 1
            act(3, 0, 0, 0, -1) -> 0
            act(3, 0, 2, 1, -1) -> 1
            2 x act(2, 0, 0, 0, -1) -> 0
            act(1, 0, 0, 0, -1) -> 1
            object 0 -> 0 2 2 1 1 2 0 0
            """);
        runs.run("a book", """
            make(1, 2) -> 0
            2 x act(3, 0, 7, 0, -1) -> 0
            3 x act(3, 0, 5, 0, -1) -> 0
            act(1, 0, 5, 0, -1) -> 1
            object 0 -> 1 2 3 1 0 0 3 0
            """);
        runs.run("a semaphore, a latch, a barrier and a queue", """
            make(2, 2) -> 0
            make(3, 3) -> 1
            make(4, 3) -> 2
            make(5, 2) -> 3
            act(0, 0, 9, 3, -1) -> 1
            act(1, 1, 12, 0, -1) -> 0
            act(1, 1, 11, 0, -1) -> 1
            act(2, 2, 13, 0, -1) -> 1
            2 x act(3, 3, 15, 6, -1) -> 0
            act(3, 3, 15, 6, -1) -> 1
            object 0 -> 2 2 0 1 0 0 0 0
            object 1 -> 3 2 0 1 0 0 0 0
            object 2 -> 4 1 0 1 0 0 0 0
            object 3 -> 5 2 0 1 0 0 0 0
            interrupt(2)
            object 2 -> 4 0 0 0 0 0 0 1
            """);
        runs.finish();
    }
}
