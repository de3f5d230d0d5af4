/** Terms: the LOCK and its CONDITIONS, sentence by sentence, at their edges. */
public final class BoundaryLockTest {
    public static void main(String[] args) {
        Runs runs = new Runs("Boundaries: locks");
        take(runs);
        leave(runs);
        waitAtCondition(runs);
        callOne(runs);
        callAll(runs);
        runs.finish();
    }

    private static void take(Runs runs) {
        runs.sentence("kind 0 LOCK (SIZE doesn't matter): 0 TAKE IT: can be if nobody HOLDS it, or the THREAD does "
            + "(then it's GRANTED whoever is in the ROW); it HOLDS it once more.");
        for (int size = 1; size <= 3; size++) {
            runs.run("a lock of size " + size + " is held by one, as often as it likes", """
                make(0, %d) -> 0
                object 0 -> 0 0 -1 0 0 0 0 0
                4 x act(0, 0, 0, 0, 0) -> 0
                object 0 -> 0 4 0 0 0 0 0 0
                act(1, 0, 0, 0, 0) -> 2
                act(1, 0, 0, 0, -1) -> 1
                object 0 -> 0 4 0 1 0 0 0 0
                """.formatted(size));
        }
        runs.run("the holder takes it past a row of all the others, and marked", """
            make(0, 1) -> 0
            act(0, 0, 0, 0, -1) -> 0
            act(1, 0, 0, 0, -1) -> 1
            act(2, 0, 0, 0, -1) -> 1
            act(3, 0, 0, 0, -1) -> 1
            act(4, 0, 0, 0, -1) -> 1
            act(5, 0, 0, 0, -1) -> 1
            interrupt(0)
            act(0, 0, 0, 0, 0) -> 0
            thread 0 -> 0 0 -1 0 1 -1
            object 0 -> 0 2 0 5 0 0 0 0
            row 0 -> 1 2 3 4 5
            """);
        runs.run("a lock can be held some hundred times", """
            make(0, 1) -> 0
            200 x act(0, 0, 0, 0, -1) -> 0
            object(0, 1) -> 200
            act(1, 0, 0, 0, -1) -> 1
            199 x act(0, 0, 1, 0, -1) -> 0
            object(0, 2) -> 0
            act(0, 0, 1, 0, -1) -> 0
            object 0 -> 0 1 1 0 0 0 0 0
            """);
    }

    private static void leave(Runs runs) {
        runs.sentence("1 LEAVE IT: once less.");
        runs.run("it's free only when it was left as often as it was taken", """
            make(0, 1) -> 0
            2 x act(0, 0, 0, 0, -1) -> 0
            act(1, 0, 0, 0, -1) -> 1
            act(0, 0, 1, 0, -1) -> 0
            object 0 -> 0 1 0 1 0 0 0 0
            act(0, 0, 1, 0, -1) -> 0
            object 0 -> 0 1 1 0 0 0 0 0
            act(1, 0, 1, 0, -1) -> 0
            object 0 -> 0 0 -1 0 0 0 0 0
            act(1, 0, 1, 0, -1) -> throws.IllegalStateException
            act(2, 0, 0, 0, 0) -> 0
            """);
    }

    private static void waitAtCondition(Runs runs) {
        runs.sentence("2 WAIT at CONDITION arg (0, 1): the THREAD HOLDS it no more, and stands last at the CONDITION.");
        runs.run("there are two conditions and no third", """
            make(0, 1) -> 0
            act(0, 0, 0, 0, -1) -> 0
            act(0, 0, 2, -1, -1) -> throws.IllegalArgumentException
            act(0, 0, 2, 2, -1) -> throws.IllegalArgumentException
            act(0, 0, 2, 2147483647, -1) -> throws.IllegalArgumentException
            act(0, 0, 2, 0, -1) -> 1
            object 0 -> 0 0 -1 0 1 0 0 0
            act(1, 0, 0, 0, -1) -> 0
            act(1, 0, 2, 1, -1) -> 1
            object 0 -> 0 0 -1 0 1 1 0 0
            """);
        runs.run("one that held it three times holds it no more, and the row moves up", """
            make(0, 1) -> 0
            3 x act(0, 0, 0, 0, -1) -> 0
            act(1, 0, 0, 0, -1) -> 1
            act(0, 0, 2, 0, -1) -> 1
            object 0 -> 0 1 1 0 1 0 0 0
            thread 0 -> 2 1 0 0 0 -1
            thread 1 -> 0 0 -1 0 0 -1
            """);
        runs.run("the second stands behind the first", """
            make(0, 1) -> 0
            act(1, 0, 0, 0, -1) -> 0
            act(1, 0, 2, 1, -1) -> 1
            act(0, 0, 0, 0, -1) -> 0
            act(0, 0, 2, 1, -1) -> 1
            act(2, 0, 0, 0, -1) -> 0
            act(2, 0, 3, 1, -1) -> 0
            told(1, 0) -> 1
            told(0, 0) -> 2
            """);
        runs.run("all six wait, each behind those before it", """
            make(0, 1) -> 0
            act(5, 0, 0, 0, -1) -> 0
            act(5, 0, 2, 0, -1) -> 1
            act(1, 0, 0, 0, -1) -> 0
            act(1, 0, 2, 0, 3) -> 1
            act(4, 0, 0, 0, -1) -> 0
            act(4, 0, 2, 0, -1) -> 1
            act(2, 0, 0, 0, -1) -> 0
            act(2, 0, 2, 0, -1) -> 1
            act(3, 0, 0, 0, -1) -> 0
            act(3, 0, 2, 0, -1) -> 1
            act(0, 0, 0, 0, -1) -> 0
            act(0, 0, 2, 0, -1) -> 1
            object 0 -> 0 0 -1 0 6 0 0 0
            count(6) -> 0
            tick(3) -> 1                        # 1 has the free lock again and calls the others
            act(1, 0, 4, 0, -1) -> 0
            row 0 -> 5 4 2 3 0
            """);
    }

    private static void callOne(Runs runs) {
        runs.sentence("3 CALL one: the first at CONDITION arg goes to the ROW's end, to TAKE IT as often as it HELD it.");
        runs.run("nobody is there", """
            make(0, 1) -> 0
            act(0, 0, 0, 0, -1) -> 0
            act(0, 0, 3, 0, -1) -> 0
            act(0, 0, 3, 1, 0) -> 0
            act(0, 0, 3, -1, -1) -> throws.IllegalArgumentException
            act(0, 0, 3, 2, -1) -> throws.IllegalArgumentException
            object 0 -> 0 1 0 0 0 0 0 0
            counts -> 1 3 0 0 0 0 6
            """);
        runs.run("the first of its condition, and none of the other", """
            make(0, 1) -> 0
            act(3, 0, 0, 0, -1) -> 0
            act(3, 0, 2, 0, -1) -> 1
            act(2, 0, 0, 0, -1) -> 0
            act(2, 0, 2, 1, -1) -> 1
            act(1, 0, 0, 0, -1) -> 0
            act(1, 0, 2, 1, -1) -> 1
            act(0, 0, 0, 0, -1) -> 0
            act(0, 0, 3, 1, -1) -> 0
            object 0 -> 0 1 0 1 1 1 0 0
            row 0 -> 2
            told(3, 0) -> 2
            told(2, 0) -> 1
            told(1, 0) -> 2
            """);
        runs.run("behind all in the row, and it holds the lock as often as before", """
            make(0, 1) -> 0
            3 x act(0, 0, 0, 0, -1) -> 0
            act(0, 0, 2, 0, -1) -> 1
            act(1, 0, 0, 0, -1) -> 0
            act(2, 0, 0, 0, -1) -> 1
            act(1, 0, 3, 0, -1) -> 0
            act(3, 0, 0, 0, -1) -> 1
            row 0 -> 2 0 3
            act(1, 0, 1, 0, -1) -> 0
            object 0 -> 0 1 2 2 0 0 0 0
            act(2, 0, 1, 0, -1) -> 0
            object 0 -> 0 3 0 1 0 0 0 0
            3 x act(0, 0, 1, 0, -1) -> 0
            object 0 -> 0 1 3 0 0 0 0 0
            """);
    }

    private static void callAll(Runs runs) {
        runs.sentence("4 CALL ALL: all, in their order.");
        runs.run("nobody is there", """
            make(0, 1) -> 0
            act(0, 0, 0, 0, -1) -> 0
            act(0, 0, 4, 0, -1) -> 0
            act(0, 0, 4, 1, 0) -> 0
            act(0, 0, 4, -1, -1) -> throws.IllegalArgumentException
            act(0, 0, 4, 2, -1) -> throws.IllegalArgumentException
            object 0 -> 0 1 0 0 0 0 0 0
            counts -> 1 3 0 0 0 0 6
            """);
        runs.run("all of one condition and none of the other, each as often as it held it", """
            make(0, 1) -> 0
            act(5, 0, 0, 0, -1) -> 0
            act(5, 0, 2, 1, -1) -> 1
            2 x act(2, 0, 0, 0, -1) -> 0
            act(2, 0, 2, 1, -1) -> 1
            act(3, 0, 0, 0, -1) -> 0
            act(3, 0, 2, 0, -1) -> 1
            3 x act(4, 0, 0, 0, -1) -> 0
            act(4, 0, 2, 1, -1) -> 1
            act(0, 0, 0, 0, -1) -> 0
            act(1, 0, 0, 0, -1) -> 1
            act(0, 0, 4, 1, -1) -> 0
            object 0 -> 0 1 0 4 1 0 0 0
            row 0 -> 1 5 2 4
            act(0, 0, 1, 0, -1) -> 0
            act(1, 0, 1, 0, -1) -> 0
            object 0 -> 0 1 5 2 1 0 0 0
            act(5, 0, 1, 0, -1) -> 0
            object 0 -> 0 2 2 1 1 0 0 0
            2 x act(2, 0, 1, 0, -1) -> 0
            object 0 -> 0 3 4 0 1 0 0 0
            """);
    }
}
