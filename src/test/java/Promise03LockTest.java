/** Promise 3 at a LOCK. */
public final class Promise03LockTest {
    public static void main(String[] args) {
        Runs runs = new Runs("Promise 3: locks");
        runs.run("the holder takes it again, whoever is in the row", """
            make(0, 1) -> 0
            act(0, 0, 0, 0, -1) -> 0
            act(1, 0, 0, 0, -1) -> 1
            act(0, 0, 0, 0, -1) -> 0
            object 0 -> 0 2 0 1 0 0 0 0
            act(0, 0, 1, 0, -1) -> 0
            object 0 -> 0 1 0 1 0 0 0 0
            act(0, 0, 1, 0, -1) -> 0
            object 0 -> 0 1 1 0 0 0 0 0
            thread 1 -> 0 0 -1 0 0 -1
            act(0, 0, 1, 0, -1) -> throws.IllegalStateException
            act(1, 0, 1, 0, -1) -> 0
            object 0 -> 0 0 -1 0 0 0 0 0
            """);
        runs.run("the row is served from the oldest on", """
            make(0, 2) -> 0
            act(5, 0, 0, 0, -1) -> 0
            act(3, 0, 0, 0, -1) -> 1
            act(1, 0, 0, 0, -1) -> 1
            act(4, 0, 0, 0, -1) -> 1
            row 0 -> 3 1 4
            act(5, 0, 1, 0, -1) -> 0
            object(0, 2) -> 3
            row 0 -> 1 4
            act(3, 0, 1, 0, -1) -> 0
            act(1, 0, 1, 0, -1) -> 0
            object(0, 2) -> 4
            row 0 -> none
            """);
        runs.run("leaving, waiting and calling need the lock", """
            make(0, 1) -> 0
            act(0, 0, 1, 0, -1) -> throws.IllegalStateException
            act(0, 0, 2, 0, -1) -> throws.IllegalStateException
            act(0, 0, 2, 0, 0) -> throws.IllegalStateException
            act(0, 0, 3, 0, -1) -> throws.IllegalStateException
            act(0, 0, 4, 0, -1) -> throws.IllegalStateException
            act(1, 0, 0, 0, -1) -> 0
            act(0, 0, 1, 0, -1) -> throws.IllegalStateException
            act(0, 0, 2, 1, -1) -> throws.IllegalStateException
            act(0, 0, 3, 1, -1) -> throws.IllegalStateException
            act(0, 0, 4, 1, -1) -> throws.IllegalStateException
            """);
        conditions(runs);
        runs.finish();
    }

    private static void conditions(Runs runs) {
        runs.run("one that waits leaves the lock wholly and has it as often again", """
            make(0, 1) -> 0
            3 x act(0, 0, 0, 0, -1) -> 0
            act(1, 0, 0, 0, -1) -> 1
            act(0, 0, 2, 1, -1) -> 1
            thread 0 -> 2 1 0 0 0 -1
            object 0 -> 0 1 1 0 0 1 0 0
            act(2, 0, 0, 0, -1) -> 1
            act(1, 0, 3, 0, -1) -> 0            # nobody is at condition 0
            thread 0 -> 2 1 0 0 0 -1
            act(1, 0, 3, 1, -1) -> 0
            thread 0 -> 1 1 0 0 0 -1
            row 0 -> 2 0                        # behind those who were there
            act(1, 0, 1, 0, -1) -> 0
            object(0, 2) -> 2
            act(2, 0, 1, 0, -1) -> 0
            object 0 -> 0 3 0 0 0 0 0 0
            thread 0 -> 0 0 -1 0 0 -1
            """);
        runs.run("calling one takes the first, calling all takes all in their order", """
            make(0, 1) -> 0
            act(4, 0, 0, 0, -1) -> 0
            act(4, 0, 2, 0, -1) -> 1
            act(2, 0, 0, 0, -1) -> 0
            act(2, 0, 2, 0, -1) -> 1
            act(3, 0, 0, 0, -1) -> 0
            act(3, 0, 2, 0, -1) -> 1
            act(1, 0, 0, 0, -1) -> 0
            act(1, 0, 2, 1, -1) -> 1
            object 0 -> 0 0 -1 0 3 1 0 0
            act(0, 0, 0, 0, -1) -> 0
            act(0, 0, 3, 0, -1) -> 0
            row 0 -> 4
            object 0 -> 0 1 0 1 2 1 0 0
            act(0, 0, 4, 0, -1) -> 0
            row 0 -> 4 2 3
            object 0 -> 0 1 0 3 0 1 0 0
            act(0, 0, 4, 0, -1) -> 0            # all of none
            act(0, 0, 4, 1, -1) -> 0
            row 0 -> 4 2 3 1
            act(0, 0, 1, 0, -1) -> 0
            object(0, 2) -> 4
            counts -> 1 11 0 0 0 0 3            # 5 takes, 4 calls, 1 leave, and 4 has waited
            """);
        runs.run("with patience 0 waiting ends at once and the lock stays held", """
            make(0, 1) -> 0
            2 x act(0, 0, 0, 0, -1) -> 0
            act(1, 0, 0, 0, -1) -> 1
            act(0, 0, 2, 0, 0) -> 2
            object 0 -> 0 2 0 1 0 0 0 0
            thread 0 -> 0 2 -1 0 0 -1
            """);
    }
}
