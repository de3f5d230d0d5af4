/** Terms: the SEMAPHORE and the LATCH, sentence by sentence, at their edges. */
public final class BoundarySemaphoreLatchTest {
    public static void main(String[] args) {
        Runs runs = new Runs("Boundaries: semaphores and latches");
        ask(runs);
        give(runs);
        stand(runs);
        down(runs);
        runs.finish();
    }

    private static void ask(Runs runs) {
        runs.sentence("kind 2 SEMAPHORE with SIZE PERMITS: 9 ASK for arg (1 .. 3): can be if so many are there, which go.");
        for (int size = 1; size <= 3; size++) {
            runs.run("all " + size + " permits, and then none", """
                make(2, %1$d) -> 0
                object(0, 1) -> %1$d
                act(0, 0, 9, %1$d, 0) -> 0
                object(0, 1) -> 0
                act(0, 0, 9, 1, 0) -> 2
                object 0 -> 2 0 0 0 0 0 0 0
                """.formatted(size));
            runs.run(size + " permits, one by one", """
                make(2, %1$d) -> 0
                %1$d x act(0, 0, 9, 1, 0) -> 0
                act(0, 0, 9, 1, 0) -> 2
                object(0, 1) -> 0
                """.formatted(size));
        }
        runs.run("one more than there are: none of them goes", """
            make(2, 1) -> 0
            act(0, 0, 9, 2, 0) -> 2
            act(0, 0, 9, 3, 0) -> 2
            object(0, 1) -> 1
            make(2, 2) -> 1
            act(0, 1, 9, 3, 0) -> 2
            act(0, 1, 9, 3, -1) -> 1
            object 1 -> 2 2 0 1 0 0 0 0
            """);
        runs.run("for less than 1 or more than 3", """
            make(2, 3) -> 0
            act(0, 0, 9, 0, -1) -> throws.IllegalArgumentException
            act(0, 0, 9, 4, -1) -> throws.IllegalArgumentException
            act(0, 0, 9, -1, -1) -> throws.IllegalArgumentException
            act(0, 0, 9, -2147483648, -1) -> throws.IllegalArgumentException
            act(0, 0, 9, 2147483647, -1) -> throws.IllegalArgumentException
            object(0, 1) -> 3
            """);
    }

    private static void give(Runs runs) {
        runs.sentence("10 GIVE arg (1 .. 3): so many come (more than 50 in all: not now).");
        runs.run("up to 50, from just below it", """
            make(2, 1) -> 0
            16 x act(0, 0, 10, 3, -1) -> 0
            object(0, 1) -> 49
            act(0, 0, 10, 2, -1) -> throws.IllegalStateException
            act(0, 0, 10, 3, -1) -> throws.IllegalStateException
            object(0, 1) -> 49
            act(0, 0, 10, 1, -1) -> 0
            object(0, 1) -> 50
            act(0, 0, 10, 1, -1) -> throws.IllegalStateException
            act(0, 0, 9, 3, -1) -> 0
            act(0, 0, 10, 3, -1) -> 0
            object(0, 1) -> 50
            """);
        runs.run("from 47 by three", """
            make(2, 2) -> 0
            15 x act(5, 0, 10, 3, -1) -> 0
            object(0, 1) -> 47
            act(5, 0, 10, 3, -1) -> 0
            object(0, 1) -> 50
            """);
        runs.run("from 48 by two", """
            make(2, 3) -> 0
            15 x act(5, 0, 10, 3, -1) -> 0
            object(0, 1) -> 48
            act(5, 0, 10, 3, -1) -> throws.IllegalStateException
            act(5, 0, 10, 2, -1) -> 0
            object(0, 1) -> 50
            """);
        runs.run("less than 1 or more than 3", """
            make(2, 3) -> 0
            act(0, 0, 10, 0, -1) -> throws.IllegalArgumentException
            act(0, 0, 10, 4, -1) -> throws.IllegalArgumentException
            act(0, 0, 10, -1, -1) -> throws.IllegalArgumentException
            act(0, 0, 10, -2147483648, -1) -> throws.IllegalArgumentException
            act(0, 0, 10, 2147483647, -1) -> throws.IllegalArgumentException
            object(0, 1) -> 3
            act(0, 0, 10, 1, 0) -> 0
            act(0, 0, 10, 2, 0) -> 0
            act(0, 0, 10, 3, 0) -> 0
            object(0, 1) -> 9
            """);
    }

    private static void stand(Runs runs) {
        runs.sentence("kind 3 LATCH at SIZE: 11 STAND: can be if it's at 0.");
        for (int size = 1; size <= 3; size++) {
            runs.run("a latch at " + size, """
                make(3, %1$d) -> 0
                object(0, 1) -> %1$d
                act(0, 0, 11, 0, -1) -> 1
                act(2, 0, 11, 0, -1) -> 1
                %1$d x act(1, 0, 11, 0, 0) -> 2
                object 0 -> 3 %1$d 0 2 0 0 0 0
                %1$d x act(1, 0, 12, 0, -1) -> 0
                object 0 -> 3 0 0 0 0 0 0 0
                told(0, 1) -> 0
                told(2, 1) -> 0
                2 x act(1, 0, 11, 0, 0) -> 0
                """.formatted(size));
        }
        runs.run("at 1 is not at 0", """
            make(3, 2) -> 0
            act(0, 0, 11, 0, -1) -> 1
            act(1, 0, 12, 0, -1) -> 0
            object 0 -> 3 1 0 1 0 0 0 0
            act(1, 0, 11, 0, 0) -> 2
            """);
    }

    private static void down(Runs runs) {
        runs.sentence("12 DOWN: one less, but not below 0.");
        runs.run("at 0 it's done and nothing changes", """
            make(3, 1) -> 0
            act(0, 0, 12, 0, -1) -> 0
            object(0, 1) -> 0
            3 x act(0, 0, 12, 0, -1) -> 0
            object(0, 1) -> 0
            act(1, 0, 11, 0, 0) -> 0
            counts -> 1 5 0 0 0 0 6
            """);
        runs.run("one at a time", """
            make(3, 3) -> 0
            act(0, 0, 12, 3, -1) -> 0
            object(0, 1) -> 2
            act(1, 0, 12, 2, -1) -> 0
            object(0, 1) -> 1
            act(0, 0, 12, 1, -1) -> 0
            object(0, 1) -> 0
            """);
    }
}
