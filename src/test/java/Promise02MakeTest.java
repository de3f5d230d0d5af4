/** Promise 2: make. */
public final class Promise02MakeTest {
    public static void main(String[] args) {
        Runs runs = new Runs("Promise 2: make");
        runs.run("numbers, kinds and what is there at first", """
            make(5, 3) -> 0
            make(4, 2) -> 1
            make(3, 3) -> 2
            make(2, 2) -> 3
            make(1, 1) -> 4
            make(0, 3) -> 5
            object 0 -> 5 0 0 0 0 0 0 0
            object 1 -> 4 0 0 0 0 0 0 0
            object 2 -> 3 3 0 0 0 0 0 0
            object 3 -> 2 2 0 0 0 0 0 0
            object 4 -> 1 0 -1 0 0 0 0 0
            object 5 -> 0 0 -1 0 0 0 0 0
            count(0) -> 6
            """);
        runs.run("every size of a semaphore and a latch", """
            make(2, 1) -> 0
            make(2, 3) -> 1
            make(3, 1) -> 2
            make(3, 2) -> 3
            object(0, 1) -> 1
            object(1, 1) -> 3
            object(2, 1) -> 1
            object(3, 1) -> 2
            """);
        runs.run("bad numbers take no number away", """
            make(-1, 1) -> throws.IllegalArgumentException
            make(6, 1) -> throws.IllegalArgumentException
            make(0, 0) -> throws.IllegalArgumentException
            make(0, 4) -> throws.IllegalArgumentException
            make(5, -1) -> throws.IllegalArgumentException
            make(-2147483648, 2147483647) -> throws.IllegalArgumentException
            count(0) -> 0
            make(0, 1) -> 0
            """);
        runs.run("the seventh is not now, and bad comes first", """
            make(0, 1) -> 0
            make(0, 2) -> 1
            make(0, 3) -> 2
            make(1, 1) -> 3
            make(1, 1) -> 4
            make(1, 1) -> 5
            make(1, 1) -> throws.IllegalStateException
            make(6, 1) -> throws.IllegalArgumentException
            make(1, 4) -> throws.IllegalArgumentException
            count(0) -> 6
            """);
        runs.finish();
    }
}
