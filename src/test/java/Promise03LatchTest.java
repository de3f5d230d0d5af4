/** Promise 3 at a LATCH. */
public final class Promise03LatchTest {
    public static void main(String[] args) {
        Runs runs = new Runs("Promise 3: latches");
        runs.run("all run when it comes to 0, and it stays there", """
            make(3, 2) -> 0
            act(0, 0, 11, 0, -1) -> 1
            act(1, 0, 11, 0, 9) -> 1
            act(2, 0, 11, 0, 0) -> 2
            row 0 -> 0 1
            act(2, 0, 12, 0, -1) -> 0
            object 0 -> 3 1 0 2 0 0 0 0
            act(2, 0, 12, 0, -1) -> 0
            object 0 -> 3 0 0 0 0 0 0 0
            thread 0 -> 0 0 -1 0 0 -1
            thread 1 -> 0 0 -1 0 0 -1
            act(2, 0, 12, 0, -1) -> 0
            object(0, 1) -> 0
            act(3, 0, 11, 0, 0) -> 0
            counts -> 1 6 1 0 0 0 6
            """);
        runs.finish();
    }
}
