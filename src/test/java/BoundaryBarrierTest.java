/** Terms: the BARRIER, sentence by sentence, at its edges. */
public final class BoundaryBarrierTest {
    public static void main(String[] args) {
        Runs runs = new Runs("Boundaries: barriers");
        arrive(runs);
        broken(runs);
        reset(runs);
        runs.finish();
    }

    private static void arrive(Runs runs) {
        runs.sentence("kind 4 BARRIER: 13 ARRIVE: BROKEN at once, if it is (before all else, a MARKED THREAD staying so); "
            + "the SIZE-th one to be in the ROW is GRANTED, with all in the ROW; else it's BLOCKED.");
        runs.run("size 1: nobody is ever blocked, not even with patience 0 or marked", """
            make(4, 1) -> 0
            act(0, 0, 13, 0, -1) -> 0
            act(0, 0, 13, 0, 0) -> 0
            interrupt(0)
            act(0, 0, 13, 0, 0) -> 0
            thread 0 -> 0 0 -1 0 1 -1
            object 0 -> 4 0 0 0 0 0 0 0
            counts -> 1 3 0 0 0 0 6
            """);
        runs.run("size 2: the second one, not the first", """
            make(4, 2) -> 0
            act(0, 0, 13, 0, -1) -> 1
            object 0 -> 4 1 0 1 0 0 0 0
            act(1, 0, 13, 0, 0) -> 0
            object 0 -> 4 0 0 0 0 0 0 0
            thread 0 -> 0 0 -1 0 0 -1
            act(2, 0, 13, 0, -1) -> 1
            """);
        runs.run("size 3: the third one, and the same again", """
            make(4, 3) -> 0
            act(5, 0, 13, 0, 9) -> 1
            act(4, 0, 13, 0, -1) -> 1
            object 0 -> 4 2 0 2 0 0 0 0
            row 0 -> 5 4
            act(3, 0, 13, 0, 0) -> 0
            object 0 -> 4 0 0 0 0 0 0 0
            told(5, 1) -> 0
            told(4, 1) -> 0
            act(3, 0, 13, 0, -1) -> 1
            act(4, 0, 13, 0, -1) -> 1
            act(5, 0, 13, 0, -1) -> 0
            counts -> 1 6 0 0 0 0 6
            """);
        runs.run("broken comes before the mark, before patience and before being the last", """
            make(4, 2) -> 0
            make(4, 1) -> 1
            act(0, 0, 13, 0, 1) -> 1
            tick(1) -> 1
            object(0, 7) -> 1
            interrupt(1)
            act(1, 0, 13, 0, 0) -> 3
            thread 1 -> 0 3 -1 0 1 -1
            act(1, 0, 13, 0, -1) -> 3
            act(2, 0, 13, 0, 0) -> 3
            act(3, 0, 13, 0, 5) -> 3
            object 0 -> 4 0 0 0 0 0 0 1
            act(1, 1, 13, 0, -1) -> 0           # the other barrier isn't broken
            counts -> 2 1 1 4 0 1 6
            """);
        runs.run("the last one to arrive may be marked, and stays so", """
            make(4, 2) -> 0
            act(0, 0, 13, 0, -1) -> 1
            interrupt(1)
            act(1, 0, 13, 0, -1) -> 0
            thread 1 -> 0 0 -1 0 1 -1
            object(0, 7) -> 0
            """);
    }

    private static void broken(Runs runs) {
        runs.sentence("If a THREAD in its ROW is INTERRUPTED or TIMES OUT, it's BROKEN, and all others in it RUN, BROKEN.");
        runs.run("interrupted, with another in the row", """
            make(4, 3) -> 0
            act(0, 0, 13, 0, 5) -> 1
            act(1, 0, 13, 0, -1) -> 1
            interrupt(1)
            thread 0 -> 0 3 -1 0 0 -1
            thread 1 -> 0 4 -1 0 0 -1
            object 0 -> 4 0 0 0 0 0 0 1
            counts -> 1 0 0 1 1 0 6
            tick(5) -> 0
            """);
        runs.run("timed out, with another in the row", """
            make(4, 3) -> 0
            act(4, 0, 13, 0, -1) -> 1
            act(5, 0, 13, 0, 2) -> 1
            tick(1) -> 0
            object 0 -> 4 2 0 2 0 0 0 0
            tick(1) -> 1
            thread 4 -> 0 3 -1 0 0 -1
            thread 5 -> 0 2 -1 0 0 -1
            object 0 -> 4 0 0 0 0 0 0 1
            counts -> 1 0 1 1 0 2 6
            """);
        runs.run("alone in the row", """
            make(4, 2) -> 0
            act(0, 0, 13, 0, -1) -> 1
            interrupt(0)
            object(0, 7) -> 1
            act(1, 0, 13, 0, -1) -> 3
            make(4, 2) -> 1
            act(0, 1, 13, 0, 1) -> 1
            tick(1) -> 1
            object(1, 7) -> 1
            act(1, 1, 13, 0, -1) -> 3
            """);
        runs.run("two whose patience ends in the same tick: one is timed out, the other broken", """
            make(4, 3) -> 0
            act(1, 0, 13, 0, 2) -> 1
            act(0, 0, 13, 0, 2) -> 1
            tick(2) -> 1
            told(0, 1) -> 2
            told(1, 1) -> 3
            counts -> 1 0 1 1 0 2 6
            """);
        runs.run("one that never was in the row doesn't break it: patience 0", """
            make(4, 3) -> 0
            act(0, 0, 13, 0, -1) -> 1
            act(1, 0, 13, 0, 0) -> 2
            object 0 -> 4 1 0 1 0 0 0 0
            told(0, 0) -> 1
            """);
        runs.run("only barriers break", """
            make(3, 1) -> 0
            act(0, 0, 11, 0, 1) -> 1
            act(1, 0, 11, 0, -1) -> 1
            act(2, 0, 11, 0, -1) -> 1
            tick(1) -> 1
            interrupt(1)
            object 0 -> 3 1 0 1 0 0 0 0
            told(2, 0) -> 1
            act(3, 0, 11, 0, -1) -> 1
            """);
    }

    private static void reset(Runs runs) {
        runs.sentence("14 RESET: all in it RUN, BROKEN; it's BROKEN no more.");
        runs.run("with nobody in it, broken or not", """
            make(4, 2) -> 0
            act(0, 0, 14, 0, -1) -> 0
            object 0 -> 4 0 0 0 0 0 0 0
            act(1, 0, 13, 0, -1) -> 1
            interrupt(1)
            object(0, 7) -> 1
            act(0, 0, 14, 0, 0) -> 0
            object(0, 7) -> 0
            act(1, 0, 13, 0, -1) -> 1
            act(0, 0, 13, 0, -1) -> 0
            told(1, 1) -> 0
            """);
        runs.run("with some in it: it isn't broken behind it", """
            make(4, 3) -> 0
            act(0, 0, 13, 0, 7) -> 1
            act(1, 0, 13, 0, -1) -> 1
            act(2, 0, 14, 0, -1) -> 0
            thread 0 -> 0 3 -1 0 0 -1
            thread 1 -> 0 3 -1 0 0 -1
            object 0 -> 4 0 0 0 0 0 0 0
            counts -> 1 1 0 2 0 0 6
            act(0, 0, 13, 0, -1) -> 1           # they have to arrive anew, all three
            act(1, 0, 13, 0, -1) -> 1
            act(2, 0, 13, 0, -1) -> 0
            """);
        runs.run("another barrier stays as it was", """
            make(4, 2) -> 0
            make(4, 2) -> 1
            act(0, 0, 13, 0, -1) -> 1
            act(1, 1, 13, 0, -1) -> 1
            interrupt(1)
            act(2, 0, 14, 0, -1) -> 0
            object(1, 7) -> 1
            act(2, 1, 14, 0, -1) -> 0
            object(1, 7) -> 0
            """);
    }
}
