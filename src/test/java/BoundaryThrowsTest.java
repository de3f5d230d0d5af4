/** Terms: what is bad, unfit and not now, in which order, and that it changes nothing. */
public final class BoundaryThrowsTest {
    /** The first act of each kind, and behind the last kind. */
    private static final int[] FIRST_ACT = {0, 5, 9, 11, 13, 15, 17};

    public static void main(String[] args) {
        Runs runs = new Runs("Boundaries: bad, unfit and not now");
        bad(runs);
        unfit(runs);
        notNow(runs);
        changesNothing(runs);
        runs.finish();
    }

    private static void bad(Runs runs) {
        runs.sentence("\"Bad\" is IllegalArgumentException, a number out of range; it comes first.");
        runs.run("bad comes before unfit", """
            make(0, 1) -> 0
            act(6, 0, 11, 0, -1) -> throws.IllegalArgumentException
            act(0, 1, 11, 0, -1) -> throws.IllegalArgumentException
            act(0, 0, 17, 0, -1) -> throws.IllegalArgumentException
            act(0, 0, 9, 0, -1) -> throws.IllegalArgumentException
            act(0, 0, 9, 4, -1) -> throws.IllegalArgumentException
            act(0, 0, 10, 0, -1) -> throws.IllegalArgumentException
            act(0, 0, 10, 4, -1) -> throws.IllegalArgumentException
            act(0, 0, 11, 0, -2) -> throws.IllegalArgumentException
            act(0, 0, 11, 0, 101) -> throws.IllegalArgumentException
            make(3, 1) -> 1
            act(0, 1, 2, 2, -1) -> throws.IllegalArgumentException
            act(0, 1, 3, -1, -1) -> throws.IllegalArgumentException
            act(0, 1, 4, 2, -1) -> throws.IllegalArgumentException
            """);
        runs.run("bad comes before not now, of a thread that is blocked and of one that waits", """
            make(0, 1) -> 0
            act(0, 0, 0, 0, -1) -> 0
            act(0, 0, 2, 0, -1) -> 1
            act(1, 0, 0, 0, -1) -> 0
            act(2, 0, 0, 0, -1) -> 1
            act(0, 1, 0, 0, -1) -> throws.IllegalArgumentException
            act(0, 0, -1, 0, -1) -> throws.IllegalArgumentException
            act(0, 0, 2, 2, -1) -> throws.IllegalArgumentException
            act(0, 0, 1, 0, 101) -> throws.IllegalArgumentException
            act(2, -1, 0, 0, -1) -> throws.IllegalArgumentException
            act(2, 0, 17, 0, -1) -> throws.IllegalArgumentException
            act(2, 0, 4, -1, -1) -> throws.IllegalArgumentException
            act(2, 0, 1, 0, -2) -> throws.IllegalArgumentException
            """);
        runs.run("bad comes before not now, of a thread that doesn't hold, read or write", """
            make(0, 1) -> 0
            make(1, 1) -> 1
            act(0, 0, 1, 0, 101) -> throws.IllegalArgumentException
            act(0, 0, 2, 2, -1) -> throws.IllegalArgumentException
            act(0, 0, 3, 2, -1) -> throws.IllegalArgumentException
            act(0, 0, 4, 2, -1) -> throws.IllegalArgumentException
            act(0, 1, 6, 0, 101) -> throws.IllegalArgumentException
            act(0, 1, 8, 0, -2) -> throws.IllegalArgumentException
            """);
        runs.run("bad comes before too many permits, too many objects and none in the row", """
            make(2, 2) -> 0
            16 x act(0, 0, 10, 3, -1) -> 0
            act(0, 0, 10, 4, -1) -> throws.IllegalArgumentException
            act(0, 0, 10, 1, 101) -> throws.IllegalArgumentException
            waiter(1, 0) -> throws.IllegalArgumentException
            waiter(-1, -1) -> throws.IllegalArgumentException
            make(0, 1) -> 1
            make(0, 1) -> 2
            make(0, 1) -> 3
            make(0, 1) -> 4
            make(0, 1) -> 5
            make(6, 1) -> throws.IllegalArgumentException
            make(-1, 1) -> throws.IllegalArgumentException
            make(0, 0) -> throws.IllegalArgumentException
            make(0, 4) -> throws.IllegalArgumentException
            make(0, 3) -> throws.IllegalStateException
            """);
    }

    private static void unfit(Runs runs) {
        runs.sentence("\"Unfit\", an ACT that the kind hasn't, is UnsupportedOperationException, next.");
        for (int kind = 0; kind < 6; kind++) {
            runs.run("every act that kind " + kind + " hasn't", unfitActsOf(kind));
        }
        runs.run("unfit comes before not now, of threads that don't run", """
            make(0, 1) -> 0
            make(2, 1) -> 1
            act(0, 0, 0, 0, -1) -> 0
            act(0, 0, 2, 0, -1) -> 1
            act(1, 1, 9, 2, -1) -> 1
            act(0, 0, 9, 1, -1) -> throws.UnsupportedOperationException
            act(0, 1, 0, 0, -1) -> throws.UnsupportedOperationException
            act(1, 1, 5, 0, -1) -> throws.UnsupportedOperationException
            act(1, 0, 16, 0, -1) -> throws.UnsupportedOperationException
            """);
        runs.run("unfit comes before not now, of acts that need the lock or the book", """
            make(3, 1) -> 0
            act(0, 0, 1, 0, -1) -> throws.UnsupportedOperationException
            act(0, 0, 2, 0, -1) -> throws.UnsupportedOperationException
            act(0, 0, 3, 0, -1) -> throws.UnsupportedOperationException
            act(0, 0, 4, 0, -1) -> throws.UnsupportedOperationException
            act(0, 0, 6, 0, -1) -> throws.UnsupportedOperationException
            act(0, 0, 8, 0, -1) -> throws.UnsupportedOperationException
            """);
    }

    private static String unfitActsOf(int kind) {
        StringBuilder text = new StringBuilder("make(" + kind + ", 1) -> 0\n");
        for (int act = 0; act < 17; act++) {
            if (act < FIRST_ACT[kind] || act >= FIRST_ACT[kind + 1]) {
                text.append("act(0, 0, " + act + ", 1, 0) -> throws.UnsupportedOperationException\n");
            }
        }
        return text.toString();
    }

    private static void notNow(Runs runs) {
        runs.sentence("\"Not now\" is IllegalStateException, after that; an ACT of a THREAD that doesn't RUN is "
            + "not now, too.");
        runs.run("one that is blocked can do no act, not even one that is never blocked", """
            make(0, 1) -> 0
            make(2, 1) -> 1
            make(3, 1) -> 2
            make(4, 1) -> 3
            make(5, 1) -> 4
            make(1, 1) -> 5
            act(0, 5, 5, 0, -1) -> 0
            act(0, 1, 9, 3, -1) -> 1
            act(0, 0, 0, 0, -1) -> throws.IllegalStateException
            act(0, 1, 9, 1, 0) -> throws.IllegalStateException
            act(0, 1, 10, 3, -1) -> throws.IllegalStateException
            act(0, 2, 12, 0, -1) -> throws.IllegalStateException
            act(0, 3, 13, 0, -1) -> throws.IllegalStateException
            act(0, 3, 14, 0, -1) -> throws.IllegalStateException
            act(0, 4, 15, 0, -1) -> throws.IllegalStateException
            act(0, 5, 5, 0, -1) -> throws.IllegalStateException
            act(0, 5, 6, 0, -1) -> throws.IllegalStateException
            interrupt(0)
            act(0, 5, 6, 0, -1) -> 0            # when it runs again it can
            """);
        runs.run("one that waits can do no act, nor one in the row to take its lock again", """
            make(0, 1) -> 0
            make(0, 1) -> 1
            act(0, 1, 0, 0, -1) -> 0
            act(0, 0, 0, 0, -1) -> 0
            act(0, 0, 2, 0, -1) -> 1
            act(0, 1, 1, 0, -1) -> throws.IllegalStateException
            act(0, 0, 2, 0, 0) -> throws.IllegalStateException
            act(1, 0, 0, 0, -1) -> 0
            act(1, 0, 3, 0, -1) -> 0
            act(0, 1, 1, 0, -1) -> throws.IllegalStateException
            act(1, 0, 1, 0, -1) -> 0
            act(0, 1, 1, 0, -1) -> 0
            """);
        runs.run("one that holds a lock and is blocked elsewhere can't leave it", """
            make(0, 1) -> 0
            make(3, 1) -> 1
            act(0, 0, 0, 0, -1) -> 0
            act(0, 1, 11, 0, -1) -> 1
            act(0, 0, 1, 0, -1) -> throws.IllegalStateException
            act(1, 0, 0, 0, -1) -> 1
            act(1, 1, 12, 0, -1) -> throws.IllegalStateException
            act(2, 1, 12, 0, -1) -> 0
            act(0, 0, 1, 0, -1) -> 0
            object(0, 2) -> 1
            """);
    }

    /** What a throwing call could spoil unseen is brought to light by the calls behind it. */
    private static void changesNothing(Runs runs) {
        runs.sentence("A call that throws changes nothing.");
        runs.run("one that waits keeps its condition, its patience and how often it held the lock", """
            make(0, 1) -> 0
            3 x act(0, 0, 0, 0, -1) -> 0
            act(0, 0, 2, 1, 9) -> 1
            act(0, 0, 2, 0, 5) -> throws.IllegalStateException
            act(0, 0, 0, 0, -1) -> throws.IllegalStateException
            act(0, 0, 9, 1, 3) -> throws.UnsupportedOperationException
            act(0, 0, 2, 2, 3) -> throws.IllegalArgumentException
            told(0, 5) -> 9
            act(1, 0, 0, 0, -1) -> 0
            act(1, 0, 3, 0, -1) -> 0
            told(0, 0) -> 2
            act(1, 0, 3, 1, -1) -> 0
            act(0, 0, 0, 0, 4) -> throws.IllegalStateException
            interrupt(0)                        # it's still in the row to take the lock again
            row 0 -> 0
            act(1, 0, 1, 0, -1) -> 0
            object 0 -> 0 3 0 0 0 0 0 0
            thread 0 -> 0 0 -1 0 1 -1
            """);
        runs.run("one that timed out while it waited stays so", """
            make(0, 1) -> 0
            act(0, 0, 0, 0, -1) -> 0
            act(0, 0, 2, 0, 1) -> 1
            act(1, 0, 0, 0, -1) -> 0
            tick(1) -> 1
            act(0, 0, 0, 0, -1) -> throws.IllegalStateException
            act(0, 0, 3, 0, -1) -> throws.IllegalStateException
            act(1, 0, 1, 0, -1) -> 0
            told(0, 1) -> 2
            """);
        runs.run("one that asks keeps what it asked for", """
            make(2, 1) -> 0
            act(0, 0, 9, 3, 9) -> 1
            act(0, 0, 9, 1, -1) -> throws.IllegalStateException
            act(0, 0, 10, 2, -1) -> throws.IllegalStateException
            act(1, 0, 10, 1, -1) -> 0
            told(0, 0) -> 1
            act(1, 0, 10, 1, -1) -> 0
            told(0, 0) -> 0
            object(0, 1) -> 0
            """);
        runs.run("one that puts keeps what it puts, and one that takes goes on taking", """
            make(5, 1) -> 0
            make(5, 1) -> 1
            act(1, 0, 15, 4, -1) -> 0
            act(0, 0, 15, 5, -1) -> 1
            act(0, 0, 15, 6, -1) -> throws.IllegalStateException
            act(0, 0, 16, 7, -1) -> throws.IllegalStateException
            2 x act(1, 0, 16, 0, -1) -> 0
            told(1, 3) -> 5
            act(0, 1, 16, 0, -1) -> 1
            act(0, 1, 15, 8, -1) -> throws.IllegalStateException
            object 1 -> 5 0 0 1 0 0 0 0
            act(1, 1, 15, 9, -1) -> 0
            told(0, 3) -> 9
            """);
        runs.run("one that reads or writes keeps its act", """
            make(1, 1) -> 0
            act(5, 0, 5, 0, -1) -> 0
            act(0, 0, 7, 0, -1) -> 1
            act(0, 0, 5, 0, -1) -> throws.IllegalStateException
            act(0, 0, 6, 0, -1) -> throws.IllegalStateException
            act(1, 0, 5, 0, -1) -> 1
            act(1, 0, 7, 0, -1) -> throws.IllegalStateException
            act(5, 0, 6, 0, -1) -> 0
            object 0 -> 1 1 0 1 0 0 0 0
            act(0, 0, 8, 0, -1) -> 0
            object 0 -> 1 0 -1 0 0 0 1 0
            """);
        runs.run("a running thread keeps its latest outcome, its mark and its value", """
            make(5, 1) -> 0
            make(0, 1) -> 1
            act(0, 0, 15, 3, -1) -> 0
            act(0, 0, 16, 0, -1) -> 0
            act(0, 0, 16, 0, 0) -> 2
            interrupt(0)
            act(0, 1, 1, 0, -1) -> throws.IllegalStateException
            act(0, 1, 2, 0, 0) -> throws.IllegalStateException
            act(0, 1, 16, 0, -1) -> throws.UnsupportedOperationException
            act(0, 0, 16, 0, -2) -> throws.IllegalArgumentException
            thread 0 -> 0 2 -1 3 1 -1
            counts -> 2 2 1 0 0 0 6
            """);
        runs.run("ticks, objects and permits that are refused", """
            make(2, 2) -> 0
            act(0, 0, 9, 3, 2) -> 1
            tick(0) -> throws.IllegalArgumentException
            tick(51) -> throws.IllegalArgumentException
            thread 0 -> 1 1 0 0 0 2
            count(5) -> 0
            make(0, 4) -> throws.IllegalArgumentException
            make(6, 1) -> throws.IllegalArgumentException
            make(3, 1) -> 1
            tick(2) -> 1
            16 x act(0, 0, 10, 3, -1) -> 0
            act(0, 0, 10, 1, -1) -> throws.IllegalStateException
            object(0, 1) -> 50
            interrupt(6) -> throws.IllegalArgumentException
            waiter(0, 0) -> throws.NoSuchElementException
            """);
    }
}
