/** The 512 calls, and the promises 1 to 5 and 8 to 10, sentence by sentence, at their edges. */
public final class BoundaryPromisesTest {
    public static void main(String[] args) {
        Runs runs = new Runs("Boundaries: promises");
        calls(runs);
        newObject(runs);
        make(runs);
        act(runs);
        answerOfAct(runs);
        tick(runs);
        answerOfTick(runs);
        interrupt(runs);
        waiter(runs);
        stuck(runs);
        count(runs);
        runs.finish();
    }

    private static void calls(Runs runs) {
        runs.sentence("An object is used for at most 512 calls after it has been made; what later calls answer is free.");
        runs.run("up to the 512th: ticks", """
            make(3, 1) -> 0
            act(0, 0, 11, 0, -1) -> 1
            508 x tick(50) -> 0
            told(0, 0) -> 1
            count(5) -> 25400
            """);
        runs.run("up to the 512th: a lock is held 510 times", """
            make(0, 1) -> 0
            510 x act(0, 0, 0, 0, -1) -> 0
            object(0, 1) -> 510
            """);
        runs.run("up to the 512th: threads are blocked and leave the row",
            "make(2, 1) -> 0\n"
            + """
            act(0, 0, 9, 2, -1) -> 1
            act(1, 0, 9, 1, 1) -> 1
            tick(1) -> 1
            interrupt(0)
            """.repeat(127)
            + """
            count(2) -> 127
            count(4) -> 127
            object(0, 3) -> 0
            """);
        runs.run("up to the 512th: calls that throw", """
            508 x make(6, 1) -> throws.IllegalArgumentException
            make(0, 1) -> 0
            act(0, 0, 0, 0, -1) -> 0
            object(0, 1) -> 1
            count(1) -> 1
            """);
    }

    private static void newObject(Runs runs) {
        runs.sentence("All THREADS RUN; no OBJECTS.");
        runs.run("nothing has happened yet", """
            counts -> 0 0 0 0 0 0 6
            stuck() -> 0
            thread 0 -> 0 0 -1 0 0 -1
            thread 5 -> 0 0 -1 0 0 -1
            object(0, 0) -> throws.IllegalArgumentException
            waiter(0, 0) -> throws.IllegalArgumentException
            act(0, 0, 0, 0, -1) -> throws.IllegalArgumentException
            tick(50) -> 0
            """);
    }

    private static void make(Runs runs) {
        runs.sentence("A new OBJECT of the kind (0 .. 5) and SIZE (1 .. 3); 6 are there: not now.");
        for (int kind = 0; kind <= 5; kind++) {
            runs.run("kind " + kind + ", and the sizes next to the edges", """
                make(%1$d, 0) -> throws.IllegalArgumentException
                make(%1$d, 4) -> throws.IllegalArgumentException
                make(%1$d, 1) -> 0
                make(%1$d, 2) -> 1
                make(%1$d, 3) -> 2
                object(0, 0) -> %1$d
                object(2, 0) -> %1$d
                make(%1$d, 1) -> 3
                make(%1$d, 1) -> 4
                make(%1$d, 1) -> 5
                make(%1$d, 1) -> throws.IllegalStateException
                make(%1$d, 3) -> throws.IllegalStateException
                make(%1$d, 0) -> throws.IllegalArgumentException
                make(%1$d, 4) -> throws.IllegalArgumentException
                count(0) -> 6
                """.formatted(kind));
        }
        runs.run("far out of range", """
            make(-1, 1) -> throws.IllegalArgumentException
            make(6, 1) -> throws.IllegalArgumentException
            make(-2147483648, 1) -> throws.IllegalArgumentException
            make(2147483647, 1) -> throws.IllegalArgumentException
            make(0, -1) -> throws.IllegalArgumentException
            make(0, -2147483648) -> throws.IllegalArgumentException
            make(0, 2147483647) -> throws.IllegalArgumentException
            count(0) -> 0
            """);
        runs.sentence("Answers its number.");
        runs.run("0 to 5, with refused calls between", """
            make(0, 1) -> 0
            make(0, 9) -> throws.IllegalArgumentException
            make(1, 1) -> 1
            make(9, 1) -> throws.IllegalArgumentException
            make(2, 1) -> 2
            make(3, 1) -> 3
            make(4, 1) -> 4
            make(5, 1) -> 5
            object(0, 0) -> 0
            object(1, 0) -> 1
            object(5, 0) -> 5
            """);
    }

    private static void act(Runs runs) {
        runs.sentence("THREAD t does the ACT (0 .. 16) at OBJECT o with arg (0, 1 for 2 to 4, 1 .. 3 for 9 and 10; "
            + "any else) and PATIENCE (-1 .. 100).");
        runs.run("the act", """
            make(0, 1) -> 0
            make(5, 1) -> 1
            act(0, 0, 0, 0, -1) -> 0
            act(0, 1, 15, 8, -1) -> 0
            act(0, 1, 16, 0, -1) -> 0
            act(0, 0, -1, 0, -1) -> throws.IllegalArgumentException
            act(0, 1, 17, 0, -1) -> throws.IllegalArgumentException
            act(0, 0, -2147483648, 0, -1) -> throws.IllegalArgumentException
            act(0, 1, 2147483647, 0, -1) -> throws.IllegalArgumentException
            """);
        runs.run("the object", """
            act(0, 0, 12, 0, -1) -> throws.IllegalArgumentException
            make(3, 1) -> 0
            act(0, 0, 12, 0, -1) -> 0
            act(0, 1, 12, 0, -1) -> throws.IllegalArgumentException
            act(0, -1, 12, 0, -1) -> throws.IllegalArgumentException
            act(0, -2147483648, 12, 0, -1) -> throws.IllegalArgumentException
            act(0, 2147483647, 12, 0, -1) -> throws.IllegalArgumentException
            make(3, 1) -> 1
            make(3, 1) -> 2
            make(3, 1) -> 3
            make(3, 1) -> 4
            make(3, 1) -> 5
            act(0, 5, 12, 0, -1) -> 0
            act(0, 6, 12, 0, -1) -> throws.IllegalArgumentException
            object(5, 1) -> 0
            object(4, 1) -> 1
            """);
        argsOfActs(runs);
        runs.run("the patience", """
            make(3, 1) -> 0
            act(0, 0, 11, 0, -2) -> throws.IllegalArgumentException
            act(0, 0, 11, 0, 101) -> throws.IllegalArgumentException
            act(0, 0, 11, 0, -2147483648) -> throws.IllegalArgumentException
            act(0, 0, 11, 0, 2147483647) -> throws.IllegalArgumentException
            act(0, 0, 12, 0, 101) -> throws.IllegalArgumentException     # also of one that is never blocked
            act(0, 0, 12, 0, -2) -> throws.IllegalArgumentException
            object(0, 1) -> 1
            act(0, 0, 11, 0, -1) -> 1
            act(1, 0, 11, 0, 0) -> 2
            act(1, 0, 11, 0, 100) -> 1
            told(0, 5) -> -1
            told(1, 5) -> 100
            act(2, 0, 12, 0, 100) -> 0
            """);
    }

    private static void argsOfActs(Runs runs) {
        runs.run("an arg of 0 or 1", """
            make(0, 1) -> 0
            act(0, 0, 0, 0, -1) -> 0
            act(0, 0, 2, 0, 0) -> 2
            act(0, 0, 2, 1, 0) -> 2
            act(0, 0, 2, -1, 0) -> throws.IllegalArgumentException
            act(0, 0, 2, 2, 0) -> throws.IllegalArgumentException
            act(0, 0, 3, 0, -1) -> 0
            act(0, 0, 3, 1, -1) -> 0
            act(0, 0, 3, -1, -1) -> throws.IllegalArgumentException
            act(0, 0, 3, 2, -1) -> throws.IllegalArgumentException
            act(0, 0, 4, 0, -1) -> 0
            act(0, 0, 4, 1, -1) -> 0
            act(0, 0, 4, -1, -1) -> throws.IllegalArgumentException
            act(0, 0, 4, 2, -1) -> throws.IllegalArgumentException
            """);
        runs.run("an arg of 1 to 3", """
            make(2, 3) -> 0
            act(0, 0, 9, 0, -1) -> throws.IllegalArgumentException
            act(0, 0, 9, 4, -1) -> throws.IllegalArgumentException
            act(0, 0, 9, 1, -1) -> 0
            act(0, 0, 10, 1, -1) -> 0
            act(0, 0, 9, 3, -1) -> 0
            act(0, 0, 10, 3, -1) -> 0
            act(0, 0, 10, 0, -1) -> throws.IllegalArgumentException
            act(0, 0, 10, 4, -1) -> throws.IllegalArgumentException
            object(0, 1) -> 3
            """);
        for (int arg : new int[] {-2147483648, -1, 2, 4, 2147483647}) {
            runs.run("the arg " + arg + " of all the other acts", """
                make(0, 1) -> 0
                make(1, 1) -> 1
                make(3, 1) -> 2
                make(4, 1) -> 3
                make(5, 1) -> 4
                act(0, 0, 0, %1$d, -1) -> 0
                act(0, 0, 1, %1$d, -1) -> 0
                act(0, 1, 5, %1$d, -1) -> 0
                act(0, 1, 6, %1$d, -1) -> 0
                act(0, 1, 7, %1$d, -1) -> 0
                act(0, 1, 8, %1$d, -1) -> 0
                act(0, 2, 12, %1$d, -1) -> 0
                act(0, 2, 11, %1$d, -1) -> 0
                act(0, 3, 13, %1$d, -1) -> 0
                act(0, 3, 14, %1$d, -1) -> 0
                act(0, 4, 15, %1$d, -1) -> 0
                act(0, 4, 16, %1$d, -1) -> 0
                told(0, 3) -> %1$d
                counts -> 5 12 0 0 0 0 6
                """.formatted(arg));
        }
    }

    private static void answerOfAct(Runs runs) {
        runs.sentence("Answers its OUTCOME, or 1 if it's BLOCKED or WAITS.");
        runs.run("each of the five answers", """
            make(4, 2) -> 0
            make(0, 1) -> 1
            act(0, 1, 0, 0, -1) -> 0
            act(1, 1, 0, 0, 0) -> 2
            act(1, 1, 0, 0, 9) -> 1
            told(1, 0) -> 1
            act(0, 1, 2, 0, -1) -> 1
            told(0, 0) -> 2
            interrupt(2)
            act(2, 0, 13, 0, -1) -> 4
            act(2, 0, 13, 0, -1) -> 3
            """);
    }

    private static void tick(Runs runs) {
        runs.sentence("n TICKS (1 .. 50); in each THREADS whose PATIENCE ends are TIMED OUT in order.");
        runs.run("too few, too many, and the edges", """
            tick(0) -> throws.IllegalArgumentException
            tick(-1) -> throws.IllegalArgumentException
            tick(51) -> throws.IllegalArgumentException
            tick(-2147483648) -> throws.IllegalArgumentException
            tick(2147483647) -> throws.IllegalArgumentException
            count(5) -> 0
            tick(1) -> 0
            count(5) -> 1
            tick(50) -> 0
            count(5) -> 51
            """);
        runs.run("in each tick by itself: an earlier one goes before a later one, whatever its number", """
            make(2, 1) -> 0
            act(5, 0, 9, 2, 1) -> 1
            act(0, 0, 9, 1, 2) -> 1
            tick(2) -> 1                        # 5 goes in the first tick, which lets 0 have its permit
            told(5, 1) -> 2
            told(0, 1) -> 0
            """);
        runs.run("in the order of their numbers: the first one's going lets the next one be granted", """
            make(2, 1) -> 0
            act(0, 0, 9, 2, 1) -> 1
            act(5, 0, 9, 1, 1) -> 1
            tick(1) -> 1
            told(0, 1) -> 2
            told(5, 1) -> 0
            """);
        runs.run("in the order of their numbers, whatever the row's", """
            make(2, 1) -> 0
            act(5, 0, 9, 2, 1) -> 1
            act(0, 0, 9, 1, 1) -> 1
            tick(1) -> 2
            told(5, 1) -> 2
            told(0, 1) -> 2
            object(0, 1) -> 1
            """);
    }

    private static void answerOfTick(Runs runs) {
        runs.sentence("Answers how many were.");
        runs.run("none and all six, in one call and at different places", """
            make(3, 1) -> 0
            make(0, 1) -> 1
            tick(50) -> 0
            act(0, 1, 0, 0, -1) -> 0
            act(0, 1, 2, 0, 50) -> 1
            act(1, 0, 11, 0, 1) -> 1
            act(2, 0, 11, 0, 49) -> 1
            act(3, 0, 11, 0, 50) -> 1
            act(4, 0, 11, 0, 7) -> 1
            act(5, 0, 11, 0, 7) -> 1
            tick(50) -> 6
            counts -> 2 1 6 0 0 100 6
            tick(50) -> 0
            """);
        runs.run("one that is broken or granted in the tick wasn't timed out", """
            make(4, 3) -> 0
            act(0, 0, 13, 0, 3) -> 1
            act(1, 0, 13, 0, 3) -> 1
            tick(3) -> 1
            counts -> 1 0 1 1 0 3 6
            """);
        runs.run("one whose patience ended at a condition is among them at once, and only once", """
            make(0, 1) -> 0
            act(0, 0, 0, 0, -1) -> 0
            act(0, 0, 2, 0, 2) -> 1
            act(1, 0, 0, 0, -1) -> 0
            tick(2) -> 1
            tick(2) -> 0
            act(1, 0, 1, 0, -1) -> 0
            tick(2) -> 0
            told(0, 1) -> 2
            """);
    }

    private static void interrupt(Runs runs) {
        runs.sentence("THREAD t is INTERRUPTED.");
        runs.run("that one and no other", """
            make(3, 1) -> 0
            interrupt(-1) -> throws.IllegalArgumentException
            interrupt(6) -> throws.IllegalArgumentException
            act(0, 0, 11, 0, -1) -> 1
            act(5, 0, 11, 0, -1) -> 1
            interrupt(5)
            told(5, 1) -> 4
            told(0, 0) -> 1
            interrupt(0)
            told(0, 1) -> 4
            count(4) -> 2
            interrupt(1)
            told(1, 4) -> 1
            told(0, 4) -> 0
            told(2, 4) -> 0
            """);
    }

    private static void waiter(Runs runs) {
        runs.sentence("The THREAD that is number i (from 0) in the ROW; none: NoSuchElementException.");
        runs.run("an empty row, and numbers before and behind the row", """
            make(3, 1) -> 0
            waiter(0, 0) -> throws.NoSuchElementException
            waiter(0, -1) -> throws.NoSuchElementException
            act(4, 0, 11, 0, -1) -> 1
            waiter(0, 0) -> 4
            waiter(0, 1) -> throws.NoSuchElementException
            waiter(0, -1) -> throws.NoSuchElementException
            waiter(0, -2147483648) -> throws.NoSuchElementException
            waiter(0, 2147483647) -> throws.NoSuchElementException
            interrupt(4)
            waiter(0, 0) -> throws.NoSuchElementException
            """);
        runs.run("a row of all six", """
            make(3, 1) -> 0
            act(3, 0, 11, 0, -1) -> 1
            act(1, 0, 11, 0, -1) -> 1
            act(5, 0, 11, 0, -1) -> 1
            act(0, 0, 11, 0, -1) -> 1
            act(4, 0, 11, 0, -1) -> 1
            act(2, 0, 11, 0, -1) -> 1
            waiter(0, 0) -> 3
            waiter(0, 3) -> 0
            waiter(0, 5) -> 2
            waiter(0, 6) -> throws.NoSuchElementException
            """);
        runs.run("an object that isn't there", """
            waiter(0, 0) -> throws.IllegalArgumentException
            make(3, 1) -> 0
            waiter(1, 0) -> throws.IllegalArgumentException
            waiter(-1, 0) -> throws.IllegalArgumentException
            waiter(6, 0) -> throws.IllegalArgumentException
            waiter(-2147483648, 0) -> throws.IllegalArgumentException
            waiter(2147483647, 0) -> throws.IllegalArgumentException
            """);
        runs.run("those at a condition aren't in the row", """
            make(0, 1) -> 0
            act(0, 0, 0, 0, -1) -> 0
            act(0, 0, 2, 0, -1) -> 1
            waiter(0, 0) -> throws.NoSuchElementException
            """);
    }

    private static void stuck(Runs runs) {
        runs.sentence("How many THREADS are STUCK.");
        runs.run("none, three in a ring, and a ring of two besides", """
            stuck() -> 0
            make(0, 1) -> 0
            make(0, 1) -> 1
            make(0, 1) -> 2
            make(0, 1) -> 3
            make(0, 1) -> 4
            act(0, 0, 0, 0, -1) -> 0
            act(1, 1, 0, 0, -1) -> 0
            act(2, 2, 0, 0, -1) -> 0
            act(3, 3, 0, 0, -1) -> 0
            act(4, 4, 0, 0, -1) -> 0
            act(0, 1, 0, 0, -1) -> 1
            act(1, 2, 0, 0, -1) -> 1
            act(2, 0, 0, 0, 5) -> 1
            stuck() -> 3
            act(3, 4, 0, 0, -1) -> 1
            act(4, 3, 0, 0, -1) -> 1
            stuck() -> 5
            act(5, 3, 0, 0, -1) -> 1
            stuck() -> 5
            tick(5) -> 1
            stuck() -> 2
            interrupt(4)
            stuck() -> 0
            """);
    }

    private static void count(Runs runs) {
        runs.sentence("OBJECTS (0), ACTS ended DONE (1), TIMED OUT (2), BROKEN (3), INTERRUPTED (4), TICKS (5), "
            + "THREADS that RUN (6); else -1.");
        runs.run("before the first and behind the last", """
            count(-1) -> -1
            count(7) -> -1
            count(-2147483648) -> -1
            count(2147483647) -> -1
            count(0) -> 0
            count(6) -> 6
            """);
        runs.run("each of them apart from the others", """
            make(4, 2) -> 0
            make(2, 1) -> 1
            counts -> 2 0 0 0 0 0 6
            act(0, 1, 9, 1, -1) -> 0
            counts -> 2 1 0 0 0 0 6
            act(0, 1, 9, 1, 3) -> 1
            counts -> 2 1 0 0 0 0 5
            tick(3) -> 1
            counts -> 2 1 1 0 0 3 6
            act(0, 1, 9, 1, 0) -> 2
            counts -> 2 1 2 0 0 3 6
            interrupt(1)
            counts -> 2 1 2 0 0 3 6
            act(1, 0, 13, 0, -1) -> 4
            counts -> 2 1 2 0 1 3 6
            act(1, 0, 13, 0, -1) -> 3
            counts -> 2 1 2 1 1 3 6
            act(1, 0, 1, 0, -1) -> throws.UnsupportedOperationException
            counts -> 2 1 2 1 1 3 6
            """);
        runs.run("acts that end together are counted each", """
            make(4, 3) -> 0
            act(0, 0, 13, 0, -1) -> 1
            act(1, 0, 13, 0, -1) -> 1
            counts -> 1 0 0 0 0 0 4
            act(2, 0, 13, 0, -1) -> 0
            counts -> 1 3 0 0 0 0 6
            act(0, 0, 13, 0, -1) -> 1
            act(1, 0, 13, 0, -1) -> 1
            act(2, 0, 14, 0, -1) -> 0
            counts -> 1 4 0 2 0 0 6
            """);
        runs.run("one that waits doesn't run, nor one in the row to take its lock again", """
            make(0, 1) -> 0
            act(0, 0, 0, 0, -1) -> 0
            act(0, 0, 2, 0, 1) -> 1
            counts -> 1 1 0 0 0 0 5
            act(1, 0, 0, 0, -1) -> 0
            tick(1) -> 1
            counts -> 1 2 0 0 0 1 5             # its act isn't ended yet
            act(1, 0, 1, 0, -1) -> 0
            counts -> 1 3 1 0 0 1 6
            """);
        runs.run("nobody runs", """
            make(3, 1) -> 0
            act(0, 0, 11, 0, 9) -> 1
            act(1, 0, 11, 0, -1) -> 1
            act(2, 0, 11, 0, -1) -> 1
            act(3, 0, 11, 0, -1) -> 1
            act(4, 0, 11, 0, -1) -> 1
            act(5, 0, 11, 0, -1) -> 1
            count(6) -> 0
            tick(9) -> 1
            count(6) -> 1
            """);
    }
}
