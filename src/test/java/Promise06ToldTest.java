/** Promise 6: told. */
public final class Promise06ToldTest {
    public static void main(String[] args) {
        Runs runs = new Runs("Promise 6: told");
        runs.run("bad numbers", """
            told(-1, 0) -> throws.IllegalArgumentException
            told(6, 0) -> throws.IllegalArgumentException
            told(0, -1) -> throws.IllegalArgumentException
            told(0, 6) -> throws.IllegalArgumentException
            told(5, 5) -> -1
            """);
        runs.run("running, blocked and waiting", """
            make(2, 1) -> 0
            make(0, 1) -> 1
            act(0, 1, 0, 0, 9) -> 0
            thread 0 -> 0 0 -1 0 0 -1           # nothing ends, so no patience is left
            act(0, 1, 2, 0, 9) -> 1
            thread 0 -> 2 1 1 0 0 9
            act(1, 0, 9, 2, 100) -> 1
            thread 1 -> 1 1 0 0 0 100
            act(2, 1, 0, 0, -1) -> 0
            act(3, 1, 0, 0, -1) -> 1
            thread 3 -> 1 1 1 0 0 -1
            tick(2) -> 0
            told(0, 5) -> 7
            told(1, 5) -> 98
            told(3, 5) -> -1
            """);
        runs.run("the outcome of the latest act", """
            make(2, 1) -> 0
            make(4, 2) -> 1
            act(0, 0, 9, 2, 0) -> 2
            told(0, 1) -> 2
            act(0, 0, 9, 1, 0) -> 0
            told(0, 1) -> 0
            act(0, 0, 9, 1, -1) -> 1
            told(0, 1) -> 1
            interrupt(0)
            told(0, 1) -> 4
            act(0, 1, 13, 0, -1) -> 1
            act(1, 1, 14, 0, -1) -> 0
            told(0, 1) -> 3
            act(0, 1, 9, 1, -1) -> throws.UnsupportedOperationException
            told(0, 1) -> 3
            """);
        runs.run("the value stays until the next take is granted", """
            make(5, 1) -> 0
            act(1, 0, 15, 42, -1) -> 0
            act(0, 0, 16, 0, -1) -> 0
            told(0, 3) -> 42
            act(0, 0, 16, 0, 1) -> 1
            told(0, 3) -> 42
            tick(1) -> 1
            told(0, 3) -> 42
            act(0, 0, 15, 43, -1) -> 0
            told(0, 3) -> 42
            act(0, 0, 16, 0, -1) -> 0
            told(0, 3) -> 43
            told(1, 3) -> 0
            """);
        runs.finish();
    }
}
