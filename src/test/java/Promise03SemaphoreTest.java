/** Promise 3 at a SEMAPHORE. */
public final class Promise03SemaphoreTest {
    public static void main(String[] args) {
        Runs runs = new Runs("Promise 3: semaphores");
        runs.run("permits go and come", """
            make(2, 3) -> 0
            act(0, 0, 9, 2, -1) -> 0
            object(0, 1) -> 1
            act(0, 0, 9, 2, 0) -> 2
            act(0, 0, 9, 1, 0) -> 0
            object(0, 1) -> 0
            act(5, 0, 10, 3, 0) -> 0            # giving needs no asking
            object(0, 1) -> 3
            act(0, 0, 9, 3, -1) -> 0
            """);
        runs.run("a small asker waits behind a big one", """
            make(2, 1) -> 0
            act(0, 0, 9, 3, -1) -> 1
            act(1, 0, 9, 1, -1) -> 1
            act(2, 0, 9, 1, 0) -> 2
            row 0 -> 0 1
            object(0, 1) -> 1
            act(3, 0, 10, 1, -1) -> 0
            object 0 -> 2 2 0 2 0 0 0 0
            act(3, 0, 10, 2, -1) -> 0           # 4: three go to 0, then one to 1
            object 0 -> 2 0 0 0 0 0 0 0
            told(0, 1) -> 0
            told(1, 1) -> 0
            """);
        runs.run("50 permits and no more", """
            make(2, 2) -> 0
            16 x act(0, 0, 10, 3, -1) -> 0
            object(0, 1) -> 50
            act(0, 0, 10, 1, -1) -> throws.IllegalStateException
            act(0, 0, 10, 3, -1) -> throws.IllegalStateException
            act(0, 0, 9, 2, -1) -> 0
            act(0, 0, 10, 3, -1) -> throws.IllegalStateException
            act(0, 0, 10, 2, -1) -> 0
            object(0, 1) -> 50
            """);
        runs.finish();
    }
}
