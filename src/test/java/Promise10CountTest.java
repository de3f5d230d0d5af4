/** Promise 10: count. */
public final class Promise10CountTest {
    public static void main(String[] args) {
        Runs runs = new Runs("Promise 10: count");
        runs.run("what isn't counted is -1", """
            count(-1) -> -1
            count(7) -> -1
            count(2147483647) -> -1
            count(-2147483648) -> -1
            """);
        runs.run("every outcome, ticks and running threads", """
            make(4, 2) -> 0
            make(2, 1) -> 1
            make(0, 1) -> 2
            act(0, 1, 9, 1, -1) -> 0
            counts -> 3 1 0 0 0 0 6
            act(0, 1, 9, 1, 0) -> 2
            counts -> 3 1 1 0 0 0 6
            act(0, 1, 9, 1, 4) -> 1
            counts -> 3 1 1 0 0 0 5             # an act that isn't ended doesn't count
            tick(7) -> 1
            counts -> 3 1 2 0 0 7 6
            act(1, 0, 13, 0, -1) -> 1
            interrupt(1)
            counts -> 3 1 2 0 1 7 6
            act(2, 0, 13, 0, -1) -> 3
            counts -> 3 1 2 1 1 7 6
            act(2, 0, 14, 0, -1) -> 0
            counts -> 3 2 2 1 1 7 6
            act(2, 1, 11, 0, -1) -> throws.UnsupportedOperationException
            act(2, 2, 1, 0, -1) -> throws.IllegalStateException
            act(6, 2, 0, 0, -1) -> throws.IllegalArgumentException
            counts -> 3 2 2 1 1 7 6
            """);
        runs.run("a thread that waits doesn't run; its act ends when it has the lock again", """
            make(0, 1) -> 0
            act(0, 0, 0, 0, -1) -> 0
            act(0, 0, 2, 0, -1) -> 1
            counts -> 1 1 0 0 0 0 5
            act(1, 0, 0, 0, -1) -> 0
            act(1, 0, 3, 0, -1) -> 0
            counts -> 1 3 0 0 0 0 5
            act(1, 0, 1, 0, -1) -> 0
            counts -> 1 5 0 0 0 0 6
            """);
        runs.finish();
    }
}
