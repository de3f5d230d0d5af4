/** Terms: PATIENCE, sentence by sentence, at its edges. */
public final class BoundaryPatienceTest {
    public static void main(String[] args) {
        Runs runs = new Runs("Boundaries: patience");
        patience(runs);
        waiting(runs);
        takingAgain(runs);
        runs.finish();
    }

    private static void patience(Runs runs) {
        runs.sentence("PATIENCE of an ACT: -1 without end, or TICKS: an ACT that can't be GRANTED at once with 0 "
            + "(2 always, the LOCK staying HELD) is TIMED OUT at once; else, when so many TICKS went by while it was "
            + "BLOCKED or WAITED, it leaves the ROW, TIMED OUT.");
        runs.run("-1 has no end", """
            make(3, 1) -> 0
            make(0, 1) -> 1
            act(0, 0, 11, 0, -1) -> 1
            act(1, 1, 0, 0, -1) -> 0
            act(1, 1, 2, 0, -1) -> 1
            20 x tick(50) -> 0
            thread 0 -> 1 1 0 0 0 -1
            thread 1 -> 2 1 1 0 0 -1
            """);
        runs.run("with 0 an act of every kind is timed out at once, and isn't in the row", """
            make(0, 1) -> 0
            make(1, 1) -> 1
            make(2, 1) -> 2
            make(3, 1) -> 3
            make(4, 2) -> 4
            make(5, 1) -> 5
            act(5, 0, 0, 0, -1) -> 0
            act(5, 1, 7, 0, -1) -> 0
            act(0, 0, 0, 0, 0) -> 2
            act(0, 1, 5, 0, 0) -> 2
            act(0, 1, 7, 0, 0) -> 2
            act(0, 2, 9, 2, 0) -> 2
            act(0, 3, 11, 0, 0) -> 2
            act(0, 4, 13, 0, 0) -> 2
            act(0, 5, 16, 0, 0) -> 2
            act(5, 5, 15, 0, 0) -> 0
            act(0, 5, 15, 0, 0) -> 2
            thread 0 -> 0 2 -1 0 0 -1
            object(0, 3) -> 0
            object(4, 3) -> 0
            object(5, 3) -> 0
            counts -> 6 3 8 0 0 0 6
            """);
        runs.run("with 0 an act that can be granted is done", """
            make(0, 1) -> 0
            make(2, 1) -> 1
            act(0, 0, 0, 0, 0) -> 0
            act(0, 1, 9, 1, 0) -> 0
            counts -> 2 2 0 0 0 0 6
            """);
        runs.run("with 0 one never waits, and the lock stays held as often", """
            make(0, 1) -> 0
            2 x act(0, 0, 0, 0, -1) -> 0
            act(1, 0, 0, 0, -1) -> 1
            act(0, 0, 2, 0, 0) -> 2
            act(0, 0, 2, 1, 0) -> 2
            thread 0 -> 0 2 -1 0 0 -1
            object 0 -> 0 2 0 1 0 0 0 0
            counts -> 1 2 2 0 0 0 5
            """);
        patienceThatEnds(runs);
    }

    private static void patienceThatEnds(Runs runs) {
        runs.run("1 ends with the first tick", """
            make(3, 1) -> 0
            act(0, 0, 11, 0, 1) -> 1
            told(0, 5) -> 1
            tick(1) -> 1
            thread 0 -> 0 2 -1 0 0 -1
            row 0 -> none
            tick(1) -> 0
            """);
        runs.run("100 ends with the hundredth and not before", """
            make(3, 1) -> 0
            act(0, 0, 11, 0, 100) -> 1
            tick(50) -> 0
            tick(49) -> 0
            thread 0 -> 1 1 0 0 0 1
            tick(1) -> 1
            thread 0 -> 0 2 -1 0 0 -1
            """);
        runs.run("it ends in the middle of many ticks", """
            make(3, 1) -> 0
            act(0, 0, 11, 0, 7) -> 1
            act(1, 0, 11, 0, 8) -> 1
            tick(7) -> 1
            told(1, 5) -> 1
            act(0, 0, 11, 0, 20) -> 1
            tick(50) -> 2
            row 0 -> none
            count(5) -> 57
            """);
        runs.run("ticks before the act don't count, and a new act has patience of its own", """
            make(3, 1) -> 0
            tick(9) -> 0
            act(0, 0, 11, 0, 3) -> 1
            tick(2) -> 0
            interrupt(0)
            act(0, 0, 11, 0, 3) -> 1
            tick(2) -> 0
            told(0, 5) -> 1
            tick(1) -> 1
            """);
        runs.run("a granted act's patience is gone", """
            make(3, 1) -> 0
            act(0, 0, 11, 0, 3) -> 1
            act(1, 0, 12, 0, 3) -> 0
            tick(3) -> 0
            thread 0 -> 0 0 -1 0 0 -1
            thread 1 -> 0 0 -1 0 0 -1
            count(2) -> 0
            """);
        runs.run("those behind it move up", """
            make(0, 1) -> 0
            act(0, 0, 0, 0, -1) -> 0
            act(1, 0, 0, 0, -1) -> 1
            act(2, 0, 0, 0, 4) -> 1
            act(3, 0, 0, 0, -1) -> 1
            tick(4) -> 1
            row 0 -> 1 3
            """);
    }

    private static void waiting(Runs runs) {
        runs.sentence("One WAITING goes to the LOCK's ROW, as if it had been called, with the OUTCOME TIMED OUT "
            + "(INTERRUPTED, likewise) when it has the LOCK again.");
        runs.run("timed out while another holds the lock, with a row before it", """
            make(0, 1) -> 0
            3 x act(0, 0, 0, 0, -1) -> 0
            act(0, 0, 2, 1, 2) -> 1
            act(1, 0, 0, 0, -1) -> 0
            act(2, 0, 0, 0, -1) -> 1
            tick(1) -> 0
            told(0, 0) -> 2
            tick(1) -> 1
            thread 0 -> 1 1 0 0 0 -1
            object 0 -> 0 1 1 2 0 0 0 0
            row 0 -> 2 0
            count(2) -> 0
            act(1, 0, 1, 0, -1) -> 0
            told(0, 1) -> 1
            act(2, 0, 1, 0, -1) -> 0
            thread 0 -> 0 2 -1 0 0 -1
            object 0 -> 0 3 0 0 0 0 0 0
            count(2) -> 1
            """);
        runs.run("timed out while the lock is free", """
            make(0, 1) -> 0
            2 x act(0, 0, 0, 0, -1) -> 0
            act(0, 0, 2, 0, 1) -> 1
            object 0 -> 0 0 -1 0 1 0 0 0
            tick(1) -> 1
            thread 0 -> 0 2 -1 0 0 -1
            object 0 -> 0 2 0 0 0 0 0 0
            counts -> 1 2 1 0 0 1 6
            """);
        runs.run("interrupted while another holds the lock, with a row before it", """
            make(0, 1) -> 0
            2 x act(0, 0, 0, 0, -1) -> 0
            act(0, 0, 2, 0, 9) -> 1
            act(1, 0, 0, 0, -1) -> 0
            act(2, 0, 0, 0, -1) -> 1
            interrupt(0)
            thread 0 -> 1 1 0 0 0 -1
            row 0 -> 2 0
            count(4) -> 0
            act(1, 0, 1, 0, -1) -> 0
            act(2, 0, 1, 0, -1) -> 0
            thread 0 -> 0 4 -1 0 0 -1
            object 0 -> 0 2 0 0 0 0 0 0
            count(4) -> 1
            """);
        runs.run("one in the middle of a condition goes, the others keep their order", """
            make(0, 1) -> 0
            act(1, 0, 0, 0, -1) -> 0
            act(1, 0, 2, 0, -1) -> 1
            act(2, 0, 0, 0, -1) -> 0
            act(2, 0, 2, 0, 2) -> 1
            act(3, 0, 0, 0, -1) -> 0
            act(3, 0, 2, 0, -1) -> 1
            act(0, 0, 0, 0, -1) -> 0
            tick(2) -> 1
            object 0 -> 0 1 0 1 2 0 0 0
            act(0, 0, 4, 0, -1) -> 0
            row 0 -> 2 1 3
            """);
        runs.run("the next act, blocked at a lock and granted, is done", """
            make(0, 1) -> 0
            act(0, 0, 0, 0, -1) -> 0
            act(0, 0, 2, 0, 1) -> 1
            tick(1) -> 1
            told(0, 1) -> 2
            act(0, 0, 1, 0, -1) -> 0
            act(1, 0, 0, 0, -1) -> 0
            act(0, 0, 0, 0, -1) -> 1
            act(1, 0, 1, 0, -1) -> 0
            told(0, 1) -> 0
            counts -> 1 5 1 0 0 1 6
            """);
        runs.run("the next act, blocked elsewhere and granted, is done", """
            make(0, 1) -> 0
            make(3, 1) -> 1
            act(0, 0, 0, 0, -1) -> 0
            act(0, 0, 2, 0, -1) -> 1
            interrupt(0)
            told(0, 1) -> 4
            act(0, 1, 11, 0, -1) -> 1
            act(1, 1, 12, 0, -1) -> 0
            told(0, 1) -> 0
            """);
        runs.run("the next wait, called, is done", """
            make(0, 1) -> 0
            act(0, 0, 0, 0, -1) -> 0
            act(0, 0, 2, 0, 1) -> 1
            tick(1) -> 1
            act(0, 0, 2, 0, -1) -> 1
            act(1, 0, 0, 0, -1) -> 0
            act(1, 0, 3, 0, -1) -> 0
            act(1, 0, 1, 0, -1) -> 0
            told(0, 1) -> 0
            """);
    }

    private static void takingAgain(Runs runs) {
        runs.sentence("In the ROW for that a THREAD neither TIMES OUT nor is INTERRUPTED any more.");
        runs.run("one that timed out", """
            make(0, 1) -> 0
            act(0, 0, 0, 0, -1) -> 0
            act(0, 0, 2, 0, 1) -> 1
            act(1, 0, 0, 0, -1) -> 0
            tick(1) -> 1
            told(0, 5) -> -1
            3 x tick(50) -> 0
            interrupt(0)
            thread 0 -> 1 1 0 0 1 -1
            row 0 -> 0
            act(1, 0, 1, 0, -1) -> 0
            thread 0 -> 0 2 -1 0 1 -1
            counts -> 1 3 1 0 0 151 6
            """);
        runs.run("one that was interrupted", """
            make(0, 1) -> 0
            act(0, 0, 0, 0, -1) -> 0
            act(0, 0, 2, 0, 5) -> 1
            act(1, 0, 0, 0, -1) -> 0
            interrupt(0)
            told(0, 4) -> 0
            told(0, 5) -> -1
            tick(5) -> 0
            interrupt(0)
            told(0, 4) -> 1
            row 0 -> 0
            act(1, 0, 1, 0, -1) -> 0
            thread 0 -> 0 4 -1 0 1 -1
            counts -> 1 3 0 0 1 5 6
            """);
        runs.run("one that was called, by one call or by a call of all", """
            make(0, 1) -> 0
            act(0, 0, 0, 0, -1) -> 0
            act(0, 0, 2, 0, 5) -> 1
            act(2, 0, 0, 0, -1) -> 0
            act(2, 0, 2, 1, 5) -> 1
            act(1, 0, 0, 0, -1) -> 0
            act(1, 0, 3, 0, -1) -> 0
            act(1, 0, 4, 1, -1) -> 0
            told(0, 5) -> -1
            told(2, 5) -> -1
            tick(5) -> 0
            interrupt(0)
            interrupt(2)
            row 0 -> 0 2
            act(1, 0, 1, 0, -1) -> 0
            thread 0 -> 0 0 -1 0 1 -1
            act(0, 0, 1, 0, -1) -> 0
            thread 2 -> 0 0 -1 0 1 -1
            counts -> 1 9 0 0 0 5 6
            """);
        runs.run("one in the row to take the lock for the first time does both", """
            make(0, 1) -> 0
            act(0, 0, 0, 0, -1) -> 0
            act(1, 0, 0, 0, 5) -> 1
            act(2, 0, 0, 0, -1) -> 1
            tick(5) -> 1
            interrupt(2)
            told(1, 1) -> 2
            told(2, 1) -> 4
            row 0 -> none
            """);
    }
}
