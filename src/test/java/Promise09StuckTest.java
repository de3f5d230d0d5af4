/** Promise 9: stuck. */
public final class Promise09StuckTest {
    public static void main(String[] args) {
        Runs runs = new Runs("Promise 9: stuck");
        runs.run("two that lean on each other, and one that leans on them", """
            make(0, 1) -> 0
            make(0, 1) -> 1
            act(0, 0, 0, 0, -1) -> 0
            act(1, 1, 0, 0, -1) -> 0
            act(0, 1, 0, 0, 5) -> 1
            stuck() -> 0
            act(1, 0, 0, 0, -1) -> 1
            stuck() -> 2
            act(2, 0, 0, 0, -1) -> 1
            stuck() -> 2
            tick(5) -> 1
            stuck() -> 0
            """);
        runs.run("six in a ring", """
            make(0, 1) -> 0
            make(0, 1) -> 1
            make(0, 1) -> 2
            make(0, 1) -> 3
            make(0, 1) -> 4
            make(0, 1) -> 5
            act(0, 0, 0, 0, -1) -> 0
            act(1, 1, 0, 0, -1) -> 0
            act(2, 2, 0, 0, -1) -> 0
            act(3, 3, 0, 0, -1) -> 0
            act(4, 4, 0, 0, -1) -> 0
            act(5, 5, 0, 0, -1) -> 0
            act(0, 1, 0, 0, -1) -> 1
            act(1, 2, 0, 0, -1) -> 1
            act(2, 3, 0, 0, -1) -> 1
            act(3, 4, 0, 0, -1) -> 1
            act(4, 5, 0, 0, -1) -> 1
            stuck() -> 0
            act(5, 0, 0, 0, -1) -> 1
            stuck() -> 6
            interrupt(3)
            stuck() -> 0
            """);
        runs.run("two rings at once", """
            make(0, 1) -> 0
            make(0, 1) -> 1
            make(0, 1) -> 2
            make(0, 1) -> 3
            act(0, 0, 0, 0, -1) -> 0
            act(1, 1, 0, 0, -1) -> 0
            act(2, 2, 0, 0, -1) -> 0
            act(3, 3, 0, 0, -1) -> 0
            act(0, 1, 0, 0, -1) -> 1
            act(1, 0, 0, 0, -1) -> 1
            act(2, 3, 0, 0, -1) -> 1
            act(3, 2, 0, 0, -1) -> 1
            stuck() -> 4
            """);
        runs.run("one that waits leans on nobody until it's in the row to take the lock again", """
            make(0, 1) -> 0
            make(0, 1) -> 1
            act(0, 0, 0, 0, -1) -> 0
            act(0, 1, 0, 0, -1) -> 0
            act(0, 0, 2, 0, -1) -> 1
            act(1, 0, 0, 0, -1) -> 0
            act(2, 1, 0, 0, -1) -> 1
            stuck() -> 0
            act(1, 0, 3, 0, -1) -> 0
            stuck() -> 0
            act(1, 1, 0, 0, -1) -> 1
            stuck() -> 2
            """);
        runs.run("only locks are leant on", """
            make(1, 1) -> 0
            make(1, 1) -> 1
            make(0, 1) -> 2
            act(0, 0, 7, 0, -1) -> 0
            act(1, 1, 7, 0, -1) -> 0
            act(0, 1, 7, 0, -1) -> 1
            act(1, 0, 7, 0, -1) -> 1
            stuck() -> 0
            """);
        runs.finish();
    }
}
