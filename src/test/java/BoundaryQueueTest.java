/** Terms: the QUEUE, sentence by sentence, at its edges. */
public final class BoundaryQueueTest {
    public static void main(String[] args) {
        Runs runs = new Runs("Boundaries: queues");
        put(runs);
        take(runs);
        runs.finish();
    }

    private static void put(Runs runs) {
        runs.sentence("kind 5 QUEUE of at most SIZE ints: 15 PUT arg at its end: can be if it's not full.");
        for (int size = 1; size <= 3; size++) {
            runs.run("full with " + size, """
                make(5, %1$d) -> 0
                object(0, 1) -> 0
                %1$d x act(0, 0, 15, 3, 0) -> 0
                object 0 -> 5 %1$d 0 0 0 0 0 0
                act(0, 0, 15, 4, 0) -> 2
                act(0, 0, 15, 5, -1) -> 1
                object 0 -> 5 %1$d 0 1 0 0 0 0
                %1$d x act(1, 0, 16, 0, -1) -> 0
                told(1, 3) -> 3
                object 0 -> 5 1 0 0 0 0 0 0
                act(1, 0, 16, 0, 0) -> 0
                told(1, 3) -> 5
                """.formatted(size));
        }
        runs.run("any int", """
            make(5, 3) -> 0
            act(0, 0, 15, -2147483648, -1) -> 0
            act(0, 0, 15, 2147483647, -1) -> 0
            act(0, 0, 15, 0, -1) -> 0
            act(0, 0, 15, -1, -1) -> 1
            act(1, 0, 16, 0, -1) -> 0
            told(1, 3) -> -2147483648
            act(1, 0, 16, 0, -1) -> 0
            told(1, 3) -> 2147483647
            act(1, 0, 16, 0, -1) -> 0
            told(1, 3) -> 0
            act(1, 0, 16, 0, -1) -> 0
            told(1, 3) -> -1
            """);
        runs.run("a queue has room again and again, and keeps its order", wrapAround());
    }

    /** Puts and takes by turns, so that any ring of so few places has been gone round many times. */
    private static String wrapAround() {
        StringBuilder text = new StringBuilder("make(5, 3) -> 0\nact(0, 0, 15, 100, -1) -> 0\n");
        for (int i = 101; i < 130; i++) {
            text.append("act(0, 0, 15, ").append(i).append(", -1) -> 0\n");
            text.append("act(1, 0, 16, 0, -1) -> 0\n");
            text.append("told(1, 3) -> ").append(i - 1).append('\n');
        }
        return text.append("object(0, 1) -> 1\n").toString();
    }

    private static void take(Runs runs) {
        runs.sentence("16 TAKE the first one (the THREAD's VALUE): can be if there is one.");
        for (int size = 1; size <= 3; size++) {
            runs.run("an empty queue of size " + size, """
                make(5, %d) -> 0
                act(0, 0, 16, 0, 0) -> 2
                told(0, 3) -> 0
                act(0, 0, 16, 0, -1) -> 1
                object 0 -> 5 0 0 1 0 0 0 0
                act(1, 0, 15, 6, -1) -> 0
                thread 0 -> 0 0 -1 6 0 -1
                object 0 -> 5 0 0 0 0 0 0 0
                """.formatted(size));
        }
        runs.run("the first one, down to the last", """
            make(5, 3) -> 0
            act(0, 0, 15, 7, -1) -> 0
            act(0, 0, 15, 8, -1) -> 0
            act(0, 0, 15, 9, -1) -> 0
            act(1, 0, 16, 55, 0) -> 0
            told(1, 3) -> 7
            object(0, 1) -> 2
            act(2, 0, 16, 55, 0) -> 0
            told(2, 3) -> 8
            act(1, 0, 16, 55, 0) -> 0
            told(1, 3) -> 9
            object(0, 1) -> 0
            act(1, 0, 16, 55, 0) -> 2
            told(1, 3) -> 9
            told(2, 3) -> 8
            told(0, 3) -> 0
            """);
        runs.run("all the others wait for one int each, the oldest first", """
            make(5, 1) -> 0
            act(5, 0, 16, 0, -1) -> 1
            act(4, 0, 16, 0, 1) -> 1
            act(3, 0, 16, 0, -1) -> 1
            act(2, 0, 16, 0, -1) -> 1
            act(1, 0, 16, 0, -1) -> 1
            tick(1) -> 1
            4 x act(0, 0, 15, 21, -1) -> 0
            object 0 -> 5 0 0 0 0 0 0 0
            told(5, 3) -> 21
            told(4, 3) -> 0
            told(1, 3) -> 21
            act(0, 0, 15, 22, -1) -> 0
            object(0, 1) -> 1
            """);
    }
}
