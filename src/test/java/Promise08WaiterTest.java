/** Promise 8: waiter. */
public final class Promise08WaiterTest {
    public static void main(String[] args) {
        Runs runs = new Runs("Promise 8: waiter");
        runs.run("bad numbers come first, then none", """
            waiter(0, 0) -> throws.IllegalArgumentException
            make(3, 1) -> 0
            waiter(-1, 0) -> throws.IllegalArgumentException
            waiter(1, -1) -> throws.IllegalArgumentException
            waiter(0, 0) -> throws.NoSuchElementException
            waiter(0, -1) -> throws.NoSuchElementException
            waiter(0, -2147483648) -> throws.NoSuchElementException
            waiter(0, 2147483647) -> throws.NoSuchElementException
            """);
        runs.run("the oldest first, up to a full row", """
            make(3, 1) -> 0
            act(4, 0, 11, 0, -1) -> 1
            act(0, 0, 11, 0, 2) -> 1
            act(5, 0, 11, 0, -1) -> 1
            act(1, 0, 11, 0, -1) -> 1
            act(3, 0, 11, 0, -1) -> 1
            act(2, 0, 11, 0, -1) -> 1
            waiter(0, 0) -> 4
            waiter(0, 1) -> 0
            waiter(0, 5) -> 2
            waiter(0, 6) -> throws.NoSuchElementException
            row 0 -> 4 0 5 1 3 2
            tick(2) -> 1
            row 0 -> 4 5 1 3 2
            interrupt(2)
            row 0 -> 4 5 1 3
            """);
        runs.run("one at a condition isn't in the row", """
            make(0, 1) -> 0
            act(0, 0, 0, 0, -1) -> 0
            act(0, 0, 2, 0, -1) -> 1
            waiter(0, 0) -> throws.NoSuchElementException
            """);
        runs.finish();
    }
}
