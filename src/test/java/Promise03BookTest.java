/** Promise 3 at a BOOK. */
public final class Promise03BookTest {
    public static void main(String[] args) {
        Runs runs = new Runs("Promise 3: books");
        runs.run("many read, one writes", """
            make(1, 1) -> 0
            act(0, 0, 5, 0, -1) -> 0
            act(1, 0, 5, 0, -1) -> 0
            act(1, 0, 5, 0, -1) -> 0
            object 0 -> 1 0 -1 0 0 0 3 0
            act(2, 0, 7, 0, -1) -> 1
            act(0, 0, 6, 0, -1) -> 0
            act(1, 0, 6, 0, -1) -> 0
            told(2, 0) -> 1
            act(1, 0, 6, 0, -1) -> 0
            object 0 -> 1 1 2 0 0 0 0 0
            thread 2 -> 0 0 -1 0 0 -1
            """);
        runs.run("a reader waits behind a writer in the row, even one that reads", """
            make(1, 1) -> 0
            act(0, 0, 5, 0, -1) -> 0
            act(1, 0, 7, 0, 2) -> 1
            act(2, 0, 5, 0, -1) -> 1
            act(0, 0, 5, 0, -1) -> 1
            row 0 -> 1 2 0
            tick(2) -> 1                        # the writer goes, the readers are let in
            told(1, 1) -> 2
            object 0 -> 1 0 -1 0 0 0 3 0
            """);
        runs.run("readers in the row go together, up to the next writer", """
            make(1, 1) -> 0
            act(0, 0, 7, 0, -1) -> 0
            act(1, 0, 5, 0, -1) -> 1
            act(2, 0, 5, 0, -1) -> 1
            act(3, 0, 7, 0, -1) -> 1
            act(4, 0, 5, 0, -1) -> 1
            act(0, 0, 8, 0, -1) -> 0
            object 0 -> 1 0 -1 2 0 0 2 0
            row 0 -> 3 4
            act(1, 0, 6, 0, -1) -> 0
            act(2, 0, 6, 0, -1) -> 0
            object 0 -> 1 1 3 1 0 0 0 0
            act(3, 0, 8, 0, -1) -> 0
            object 0 -> 1 0 -1 0 0 0 1 0
            """);
        ownersOfTheBook(runs);
        runs.run("closing needs reading or writing", """
            make(1, 1) -> 0
            act(0, 0, 6, 0, -1) -> throws.IllegalStateException
            act(0, 0, 8, 0, -1) -> throws.IllegalStateException
            act(0, 0, 5, 0, -1) -> 0
            act(0, 0, 8, 0, -1) -> throws.IllegalStateException
            act(1, 0, 6, 0, -1) -> throws.IllegalStateException
            act(0, 0, 6, 0, -1) -> 0
            act(0, 0, 6, 0, -1) -> throws.IllegalStateException
            act(0, 0, 7, 0, -1) -> 0
            act(0, 0, 6, 0, -1) -> throws.IllegalStateException
            act(1, 0, 8, 0, -1) -> throws.IllegalStateException
            """);
        runs.finish();
    }

    private static void ownersOfTheBook(Runs runs) {
        runs.run("the writer reads and writes whoever is in the row", """
            make(1, 1) -> 0
            act(0, 0, 7, 0, -1) -> 0
            act(1, 0, 7, 0, -1) -> 1
            act(2, 0, 5, 0, -1) -> 1
            act(0, 0, 7, 0, -1) -> 0
            act(0, 0, 5, 0, -1) -> 0
            object 0 -> 1 2 0 2 0 0 1 0
            act(0, 0, 8, 0, -1) -> 0
            object 0 -> 1 1 0 2 0 0 1 0
            act(0, 0, 8, 0, -1) -> 0
            object 0 -> 1 0 -1 2 0 0 1 0        # it still reads, so 1 can't write and 2 stays behind 1
            act(0, 0, 6, 0, -1) -> 0
            object 0 -> 1 1 1 1 0 0 0 0
            """);
        runs.run("the only reader may write, one of two may not", """
            make(1, 1) -> 0
            act(0, 0, 5, 0, -1) -> 0
            act(0, 0, 7, 0, -1) -> 0
            object 0 -> 1 1 0 0 0 0 1 0
            act(0, 0, 8, 0, -1) -> 0
            act(1, 0, 5, 0, -1) -> 0
            act(0, 0, 7, 0, 0) -> 2
            act(0, 0, 7, 0, -1) -> 1
            act(1, 0, 6, 0, -1) -> 0
            object 0 -> 1 1 0 0 0 0 1 0
            """);
        runs.run("the only reader may not write past the row", """
            make(1, 1) -> 0
            act(0, 0, 5, 0, -1) -> 0
            act(1, 0, 7, 0, -1) -> 1
            act(0, 0, 7, 0, -1) -> 1
            row 0 -> 1 0
            interrupt(1)
            object 0 -> 1 1 0 0 0 0 1 0
            """);
    }
}
