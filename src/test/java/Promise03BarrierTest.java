/** Promise 3 at a BARRIER. */
public final class Promise03BarrierTest {
    public static void main(String[] args) {
        Runs runs = new Runs("Promise 3: barriers");
        runs.run("the last one to arrive lets all go, again and again", """
            make(4, 3) -> 0
            act(0, 0, 13, 0, -1) -> 1
            act(1, 0, 13, 0, 5) -> 1
            object 0 -> 4 2 0 2 0 0 0 0
            act(2, 0, 13, 0, 0) -> 0
            object 0 -> 4 0 0 0 0 0 0 0
            thread 0 -> 0 0 -1 0 0 -1
            thread 1 -> 0 0 -1 0 0 -1
            act(3, 0, 13, 0, -1) -> 1
            counts -> 1 3 0 0 0 0 5
            """);
        runs.run("a barrier of one blocks nobody", """
            make(4, 1) -> 0
            3 x act(0, 0, 13, 0, 0) -> 0
            object 0 -> 4 0 0 0 0 0 0 0
            """);
        runs.run("one that times out in the row breaks it", """
            make(4, 3) -> 0
            act(0, 0, 13, 0, -1) -> 1
            act(1, 0, 13, 0, 1) -> 1
            tick(1) -> 1
            told(0, 1) -> 3
            told(1, 1) -> 2
            object 0 -> 4 0 0 0 0 0 0 1
            3 x act(2, 0, 13, 0, -1) -> 3
            act(2, 0, 13, 0, 0) -> 3            # broken comes before patience
            act(3, 0, 14, 0, -1) -> 0
            object(0, 7) -> 0
            act(2, 0, 13, 0, -1) -> 1
            counts -> 1 1 1 5 0 1 5
            """);
        runs.run("patience 0 doesn't break it: that thread never was in the row", """
            make(4, 3) -> 0
            act(0, 0, 13, 0, -1) -> 1
            act(1, 0, 13, 0, 0) -> 2
            object 0 -> 4 1 0 1 0 0 0 0
            told(0, 0) -> 1
            """);
        runs.run("one interrupted in the row breaks it", """
            make(4, 3) -> 0
            act(0, 0, 13, 0, -1) -> 1
            act(1, 0, 13, 0, -1) -> 1
            interrupt(0)
            thread 0 -> 0 4 -1 0 0 -1
            thread 1 -> 0 3 -1 0 0 -1
            object 0 -> 4 0 0 0 0 0 0 1
            """);
        markedThreads(runs);
        runs.run("a reset lets all in it go, broken", """
            make(4, 3) -> 0
            act(0, 0, 13, 0, -1) -> 1
            act(1, 0, 13, 0, -1) -> 1
            act(2, 0, 14, 0, -1) -> 0
            told(0, 1) -> 3
            told(1, 1) -> 3
            object 0 -> 4 0 0 0 0 0 0 0
            act(2, 0, 14, 0, -1) -> 0           # with nobody in it
            counts -> 1 2 0 2 0 0 6
            """);
        runs.finish();
    }

    private static void markedThreads(Runs runs) {
        runs.run("a marked thread that can't go on breaks it", """
            make(4, 3) -> 0
            act(0, 0, 13, 0, -1) -> 1
            interrupt(1)
            act(1, 0, 13, 0, 0) -> 4
            thread 1 -> 0 4 -1 0 0 -1
            told(0, 1) -> 3
            object 0 -> 4 0 0 0 0 0 0 1
            """);
        runs.run("a marked thread stays marked where it's broken, or as the last to arrive", """
            make(4, 2) -> 0
            act(0, 0, 13, 0, -1) -> 1
            interrupt(0)
            interrupt(1)
            act(1, 0, 13, 0, -1) -> 3
            told(1, 4) -> 1
            act(1, 0, 14, 0, -1) -> 0
            told(1, 4) -> 1
            act(0, 0, 13, 0, -1) -> 1
            act(1, 0, 13, 0, -1) -> 0
            thread 1 -> 0 0 -1 0 1 -1
            told(0, 1) -> 0
            """);
    }
}
