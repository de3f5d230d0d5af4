/** Terms: INTERRUPTING and STUCK THREADS, sentence by sentence, at their edges. */
public final class BoundaryInterruptStuckTest {
    public static void main(String[] args) {
        Runs runs = new Runs("Boundaries: interrupting and stuck threads");
        interrupting(runs);
        marked(runs);
        markedAtBarrier(runs);
        stuck(runs);
        runs.finish();
    }

    private static void interrupting(Runs runs) {
        runs.sentence("INTERRUPTING a THREAD: BLOCKED: it leaves the ROW, INTERRUPTED; WAITING: as said; "
            + "else (and in the ROW as said) it's MARKED.");
        runs.run("blocked at every kind: it isn't marked", """
            make(0, 1) -> 0
            make(1, 1) -> 1
            make(2, 1) -> 2
            make(3, 1) -> 3
            make(4, 2) -> 4
            make(5, 1) -> 5
            act(5, 0, 0, 0, -1) -> 0
            act(5, 1, 7, 0, -1) -> 0
            act(0, 0, 0, 0, -1) -> 1
            interrupt(0)
            thread 0 -> 0 4 -1 0 0 -1
            act(0, 1, 5, 0, 3) -> 1
            interrupt(0)
            thread 0 -> 0 4 -1 0 0 -1
            act(0, 2, 9, 3, 3) -> 1
            interrupt(0)
            thread 0 -> 0 4 -1 0 0 -1
            act(0, 3, 11, 0, 3) -> 1
            interrupt(0)
            thread 0 -> 0 4 -1 0 0 -1
            act(0, 4, 13, 0, 3) -> 1
            interrupt(0)
            thread 0 -> 0 4 -1 0 0 -1
            act(0, 5, 16, 0, 3) -> 1
            interrupt(0)
            thread 0 -> 0 4 -1 0 0 -1
            counts -> 6 2 0 0 6 0 6
            """);
        runs.run("the first, the middle and the last of a row", """
            make(3, 1) -> 0
            act(0, 0, 11, 0, -1) -> 1
            act(1, 0, 11, 0, -1) -> 1
            act(2, 0, 11, 0, -1) -> 1
            act(3, 0, 11, 0, -1) -> 1
            interrupt(1)
            row 0 -> 0 2 3
            interrupt(3)
            row 0 -> 0 2
            interrupt(0)
            row 0 -> 2
            interrupt(2)
            row 0 -> none
            """);
        runs.run("waiting: it goes to the row and isn't marked", """
            make(0, 1) -> 0
            act(0, 0, 0, 0, -1) -> 0
            act(0, 0, 2, 1, 3) -> 1
            act(1, 0, 0, 0, -1) -> 0
            interrupt(0)
            thread 0 -> 1 1 0 0 0 -1
            object 0 -> 0 1 1 1 0 0 0 0
            interrupt(0)
            thread 0 -> 1 1 0 0 1 -1
            """);
        runs.run("blocked: those behind it move up, and run if they can now", """
            make(2, 1) -> 0
            act(0, 0, 9, 2, -1) -> 1
            act(1, 0, 9, 1, 5) -> 1
            interrupt(0)
            thread 0 -> 0 4 -1 0 0 -1
            thread 1 -> 0 0 -1 0 0 -1
            object 0 -> 2 0 0 0 0 0 0 0
            """);
        runs.run("waiting while the lock is free: it has it again at once", """
            make(0, 1) -> 0
            2 x act(0, 0, 0, 0, -1) -> 0
            act(0, 0, 2, 1, -1) -> 1
            object 0 -> 0 0 -1 0 0 1 0 0
            interrupt(0)
            thread 0 -> 0 4 -1 0 0 -1
            object 0 -> 0 2 0 0 0 0 0 0
            count(4) -> 1
            """);
        runs.run("running: it's marked, once, before any act and behind one", """
            interrupt(3)
            thread 3 -> 0 0 -1 0 1 -1
            interrupt(3)
            thread 3 -> 0 0 -1 0 1 -1
            make(2, 1) -> 0
            act(2, 0, 9, 3, 0) -> 2
            interrupt(2)
            thread 2 -> 0 2 -1 0 1 -1
            count(4) -> 0
            act(2, 0, 9, 3, 0) -> 4
            act(2, 0, 9, 3, 0) -> 2
            act(3, 0, 9, 3, 0) -> 4             # two interruptions are one mark
            act(3, 0, 9, 3, 0) -> 2
            """);
    }

    private static void marked(Runs runs) {
        runs.sentence("A MARKED one's next ACT that can't be GRANTED at once (2 always, but if it's not now) is "
            + "INTERRUPTED at once (before PATIENCE counts; for 2 the LOCK stays HELD), and it's MARKED no more.");
        for (int patience : new int[] {-1, 0, 1, 100}) {
            runs.run("at every kind, with patience " + patience, """
                make(0, 1) -> 0
                make(1, 1) -> 1
                make(2, 1) -> 2
                make(3, 1) -> 3
                make(5, 1) -> 4
                act(5, 0, 0, 0, -1) -> 0
                act(5, 1, 7, 0, -1) -> 0
                interrupt(0)
                act(0, 0, 0, 0, %1$d) -> 4
                thread 0 -> 0 4 -1 0 0 -1
                interrupt(0)
                act(0, 1, 5, 0, %1$d) -> 4
                interrupt(0)
                act(0, 1, 7, 0, %1$d) -> 4
                interrupt(0)
                act(0, 2, 9, 2, %1$d) -> 4
                interrupt(0)
                act(0, 3, 11, 0, %1$d) -> 4
                interrupt(0)
                act(0, 4, 16, 0, %1$d) -> 4
                act(5, 4, 15, 1, -1) -> 0
                interrupt(0)
                act(0, 4, 15, 2, %1$d) -> 4
                thread 0 -> 0 4 -1 0 0 -1
                object(0, 3) -> 0
                object(1, 3) -> 0
                object(2, 3) -> 0
                object(3, 3) -> 0
                object(4, 3) -> 0
                counts -> 5 3 0 0 7 0 6
                """.formatted(patience));
            runs.run("a wait, with patience " + patience, """
                make(0, 1) -> 0
                2 x act(0, 0, 0, 0, -1) -> 0
                act(1, 0, 0, 0, -1) -> 1
                interrupt(0)
                act(0, 0, 2, 1, %d) -> 4
                thread 0 -> 0 4 -1 0 0 -1
                object 0 -> 0 2 0 1 0 0 0 0
                act(0, 0, 2, 1, 7) -> 1
                thread 0 -> 2 1 0 0 0 7
                """.formatted(patience));
        }
        runs.run("a wait that is not now leaves the mark", """
            make(0, 1) -> 0
            interrupt(0)
            act(0, 0, 2, 0, -1) -> throws.IllegalStateException
            act(0, 0, 2, 0, 0) -> throws.IllegalStateException
            act(0, 0, 1, 0, 0) -> throws.IllegalStateException
            thread 0 -> 0 0 -1 0 1 -1
            count(4) -> 0
            """);
        runs.run("an act that could be, but for those in the row, can't be granted at once", """
            make(2, 1) -> 0
            act(0, 0, 9, 3, -1) -> 1
            interrupt(1)
            act(1, 0, 9, 1, -1) -> 4
            thread 1 -> 0 4 -1 0 0 -1
            object 0 -> 2 1 0 1 0 0 0 0
            """);
        runs.run("acts that are granted leave the mark for the next one that isn't", """
            make(2, 2) -> 0
            interrupt(0)
            2 x act(0, 0, 9, 1, 0) -> 0
            act(0, 0, 10, 1, -1) -> 0
            told(0, 4) -> 1
            act(0, 0, 9, 2, -1) -> 4
            told(0, 4) -> 0
            act(0, 0, 9, 2, -1) -> 1
            """);
        runs.run("a mark of the time in the row to take the lock again", """
            make(0, 1) -> 0
            act(0, 0, 0, 0, -1) -> 0
            act(0, 0, 2, 0, -1) -> 1
            act(1, 0, 0, 0, -1) -> 0
            act(1, 0, 3, 0, -1) -> 0
            interrupt(0)
            act(1, 0, 1, 0, -1) -> 0
            thread 0 -> 0 0 -1 0 1 -1
            act(0, 0, 2, 0, -1) -> 4
            thread 0 -> 0 4 -1 0 0 -1
            object 0 -> 0 1 0 0 0 0 0 0
            """);
    }

    private static void markedAtBarrier(Runs runs) {
        runs.sentence("(At a BARRIER: that breaks it, too.)");
        runs.run("with others in the row", """
            make(4, 3) -> 0
            act(0, 0, 13, 0, 9) -> 1
            interrupt(1)
            act(1, 0, 13, 0, -1) -> 4
            thread 0 -> 0 3 -1 0 0 -1
            thread 1 -> 0 4 -1 0 0 -1
            object 0 -> 4 0 0 0 0 0 0 1
            counts -> 1 0 0 1 1 0 6
            """);
        runs.run("with nobody in the row, and with patience 0", """
            make(4, 2) -> 0
            interrupt(1)
            act(1, 0, 13, 0, 0) -> 4
            object 0 -> 4 0 0 0 0 0 0 1
            act(0, 0, 13, 0, -1) -> 3
            """);
        runs.run("not where it can be granted", """
            make(4, 1) -> 0
            interrupt(1)
            act(1, 0, 13, 0, 0) -> 0
            object 0 -> 4 0 0 0 0 0 0 0
            told(1, 4) -> 1
            """);
    }

    private static void stuck(Runs runs) {
        runs.sentence("STUCK THREADS: one BLOCKED at a LOCK (also to TAKE IT again) LEANS on the THREAD that HOLDS it; "
            + "a THREAD is STUCK if it comes back to itself by LEANING.");
        runs.run("nobody, one that leans, and the shortest ring", """
            make(0, 1) -> 0
            make(0, 1) -> 1
            stuck() -> 0
            act(4, 0, 0, 0, -1) -> 0
            act(5, 1, 0, 0, -1) -> 0
            act(4, 1, 0, 0, -1) -> 1
            stuck() -> 0
            act(5, 0, 0, 0, 2) -> 1
            stuck() -> 2
            tick(2) -> 1
            stuck() -> 0
            """);
        runs.run("those who lean on a ring aren't in it", """
            make(0, 1) -> 0
            make(0, 1) -> 1
            make(0, 1) -> 2
            act(0, 0, 0, 0, -1) -> 0
            act(1, 1, 0, 0, -1) -> 0
            act(2, 2, 0, 0, -1) -> 0
            act(2, 0, 0, 0, -1) -> 1
            act(3, 2, 0, 0, -1) -> 1            # 3 leans on 2, 2 on 0
            act(0, 1, 0, 0, -1) -> 1
            act(1, 0, 0, 0, -1) -> 1
            stuck() -> 2
            """);
        runs.run("a ring by one that is to take its lock again", """
            make(0, 1) -> 0
            make(0, 1) -> 1
            act(0, 0, 0, 0, -1) -> 0
            act(0, 1, 0, 0, -1) -> 0
            act(0, 0, 2, 0, 1) -> 1
            act(1, 0, 0, 0, -1) -> 0
            act(1, 1, 0, 0, -1) -> 1
            stuck() -> 0                        # 1 leans on 0, which waits and leans on nobody
            tick(1) -> 1
            stuck() -> 2
            """);
        runs.run("blocked at other kinds, one leans on nobody", """
            make(0, 1) -> 0
            make(1, 1) -> 1
            make(4, 2) -> 2
            act(0, 0, 0, 0, -1) -> 0
            act(1, 1, 7, 0, -1) -> 0
            act(0, 1, 7, 0, -1) -> 1
            act(1, 0, 0, 0, -1) -> 1
            stuck() -> 0
            act(2, 2, 13, 0, -1) -> 1
            stuck() -> 0
            """);
        runs.run("all six in one ring", sixInOneRing());
    }

    private static String sixInOneRing() {
        StringBuilder text = new StringBuilder();
        for (int t = 0; t < 6; t++) {
            text.append("make(0, 1) -> ").append(t).append('\n');
            text.append("act(").append(t).append(", ").append(t).append(", 0, 0, -1) -> 0\n");
        }
        for (int t = 0; t < 6; t++) {
            text.append("stuck() -> 0\n");
            text.append("act(").append(t).append(", ").append((t + 1) % 6).append(", 0, 0, -1) -> 1\n");
        }
        return text.append("stuck() -> 6\ninterrupt(2)\nstuck() -> 0\n").toString();
    }
}
