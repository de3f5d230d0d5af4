/** Terms: the BOOK, sentence by sentence, at its edges. */
public final class BoundaryBookTest {
    public static void main(String[] args) {
        Runs runs = new Runs("Boundaries: books");
        read(runs);
        closeReading(runs);
        write(runs);
        closeWriting(runs);
        writerPassesRow(runs);
        runs.finish();
    }

    private static void read(Runs runs) {
        runs.sentence("kind 1 BOOK: 5 READ: can be if no other THREAD WRITES; it READS once more.");
        for (int size = 1; size <= 3; size++) {
            runs.run("all six read a book of size " + size, """
                make(1, %d) -> 0
                act(0, 0, 5, 0, 0) -> 0
                act(1, 0, 5, 0, 0) -> 0
                act(2, 0, 5, 0, 0) -> 0
                act(3, 0, 5, 0, 0) -> 0
                act(4, 0, 5, 0, 0) -> 0
                2 x act(5, 0, 5, 0, 0) -> 0
                object 0 -> 1 0 -1 0 0 0 7 0
                """.formatted(size));
        }
        runs.run("not if another writes, but if the thread itself does", """
            make(1, 1) -> 0
            act(0, 0, 7, 0, -1) -> 0
            act(1, 0, 5, 0, 0) -> 2
            act(0, 0, 5, 0, 0) -> 0
            act(1, 0, 5, 0, -1) -> 1
            object 0 -> 1 1 0 1 0 0 1 0
            act(0, 0, 8, 0, -1) -> 0
            object 0 -> 1 0 -1 0 0 0 2 0
            """);
    }

    private static void closeReading(Runs runs) {
        runs.sentence("6 CLOSE: once less.");
        runs.run("as often as it was read, and no oftener", """
            make(1, 1) -> 0
            2 x act(0, 0, 5, 0, -1) -> 0
            act(1, 0, 5, 0, -1) -> 0
            act(2, 0, 7, 0, -1) -> 1
            act(0, 0, 6, 0, -1) -> 0
            object 0 -> 1 0 -1 1 0 0 2 0
            act(0, 0, 6, 0, -1) -> 0
            object 0 -> 1 0 -1 1 0 0 1 0
            act(0, 0, 6, 0, -1) -> throws.IllegalStateException      # 1 reads, 0 doesn't
            act(1, 0, 6, 0, -1) -> 0
            object 0 -> 1 1 2 0 0 0 0 0
            act(1, 0, 6, 0, -1) -> throws.IllegalStateException
            """);
    }

    private static void write(Runs runs) {
        runs.sentence("7 WRITE: can be if no other THREAD READS or WRITES; it WRITES once more.");
        for (int size = 1; size <= 3; size++) {
            runs.run("one writes a book of size " + size, """
                make(1, %d) -> 0
                2 x act(3, 0, 7, 0, 0) -> 0
                object 0 -> 1 2 3 0 0 0 0 0
                act(4, 0, 7, 0, 0) -> 2
                act(4, 0, 7, 0, -1) -> 1
                object 0 -> 1 2 3 1 0 0 0 0
                """.formatted(size));
        }
        runs.run("the only one who reads may write, and nobody where two read", """
            make(1, 1) -> 0
            2 x act(0, 0, 5, 0, -1) -> 0
            act(0, 0, 7, 0, 0) -> 0
            object 0 -> 1 1 0 0 0 0 2 0
            act(0, 0, 8, 0, -1) -> 0
            act(1, 0, 7, 0, 0) -> 2
            act(1, 0, 5, 0, 0) -> 0
            act(0, 0, 7, 0, 0) -> 2
            act(1, 0, 7, 0, 0) -> 2
            act(2, 0, 7, 0, 0) -> 2
            """);
        runs.run("one that reads and wants to write is let in when the last other one closes", """
            make(1, 1) -> 0
            act(0, 0, 5, 0, -1) -> 0
            2 x act(1, 0, 5, 0, -1) -> 0
            act(0, 0, 7, 0, -1) -> 1
            act(1, 0, 6, 0, -1) -> 0
            told(0, 0) -> 1
            act(1, 0, 6, 0, -1) -> 0
            object 0 -> 1 1 0 0 0 0 1 0
            """);
        runs.run("two that read and want to write wait for each other for ever", """
            make(1, 1) -> 0
            act(0, 0, 5, 0, -1) -> 0
            act(1, 0, 5, 0, -1) -> 0
            act(0, 0, 7, 0, -1) -> 1
            act(1, 0, 7, 0, -1) -> 1
            tick(50) -> 0
            object 0 -> 1 0 -1 2 0 0 2 0
            stuck() -> 0                        # but only locks are leant on
            """);
    }

    private static void closeWriting(Runs runs) {
        runs.sentence("8 CLOSE the writing: once less.");
        runs.run("as often as it was written, and no oftener", """
            make(1, 1) -> 0
            2 x act(0, 0, 7, 0, -1) -> 0
            act(1, 0, 5, 0, -1) -> 1
            act(2, 0, 5, 0, -1) -> 1
            act(0, 0, 8, 0, -1) -> 0
            object 0 -> 1 1 0 2 0 0 0 0
            act(0, 0, 8, 0, -1) -> 0
            object 0 -> 1 0 -1 0 0 0 2 0
            act(0, 0, 8, 0, -1) -> throws.IllegalStateException
            act(1, 0, 8, 0, -1) -> throws.IllegalStateException
            """);
        runs.run("one that wrote goes on reading", """
            make(1, 1) -> 0
            act(0, 0, 7, 0, -1) -> 0
            act(0, 0, 5, 0, -1) -> 0
            act(1, 0, 5, 0, -1) -> 1
            act(2, 0, 7, 0, -1) -> 1
            act(0, 0, 8, 0, -1) -> 0
            object 0 -> 1 0 -1 1 0 0 2 0
            row 0 -> 2
            act(0, 0, 6, 0, -1) -> 0
            act(1, 0, 6, 0, -1) -> 0
            object 0 -> 1 1 2 0 0 0 0 0
            """);
    }

    private static void writerPassesRow(Runs runs) {
        runs.sentence("A THREAD that WRITES is GRANTED READ and WRITE whoever is in the ROW.");
        runs.run("past a row of all the others, and marked", """
            make(1, 1) -> 0
            act(5, 0, 7, 0, -1) -> 0
            act(0, 0, 7, 0, -1) -> 1
            act(1, 0, 5, 0, -1) -> 1
            act(2, 0, 5, 0, -1) -> 1
            act(3, 0, 7, 0, -1) -> 1
            act(4, 0, 5, 0, -1) -> 1
            interrupt(5)
            act(5, 0, 5, 0, 0) -> 0
            act(5, 0, 7, 0, 0) -> 0
            thread 5 -> 0 0 -1 0 1 -1
            object 0 -> 1 2 5 5 0 0 1 0
            row 0 -> 0 1 2 3 4
            """);
        runs.run("one that only reads isn't granted past the row", """
            make(1, 1) -> 0
            act(0, 0, 5, 0, -1) -> 0
            act(1, 0, 7, 0, -1) -> 1
            act(0, 0, 5, 0, 0) -> 2
            act(0, 0, 7, 0, 0) -> 2
            act(0, 0, 7, 0, -1) -> 1
            row 0 -> 1 0
            """);
    }
}
