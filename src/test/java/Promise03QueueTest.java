/** Promise 3 at a QUEUE. */
public final class Promise03QueueTest {
    public static void main(String[] args) {
        Runs runs = new Runs("Promise 3: queues");
        runs.run("first in, first out", """
            make(5, 3) -> 0
            act(0, 0, 15, 7, -1) -> 0
            act(0, 0, 15, -8, -1) -> 0
            act(0, 0, 15, 9, -1) -> 0
            act(0, 0, 15, 10, 0) -> 2
            object 0 -> 5 3 0 0 0 0 0 0
            act(1, 0, 16, 0, -1) -> 0
            told(1, 3) -> 7
            act(2, 0, 16, 0, -1) -> 0
            told(2, 3) -> -8
            act(1, 0, 16, 0, -1) -> 0
            told(1, 3) -> 9
            act(1, 0, 16, 0, 0) -> 2
            told(1, 3) -> 9
            told(0, 3) -> 0
            object(0, 1) -> 0
            """);
        runs.run("takers in the row are served by putters", """
            make(5, 1) -> 0
            act(0, 0, 16, 0, -1) -> 1
            act(1, 0, 16, 0, -1) -> 1
            act(2, 0, 15, 5, -1) -> 0           # a put isn't held up by takes in the row
            told(0, 3) -> 5
            told(1, 0) -> 1
            object 0 -> 5 0 0 1 0 0 0 0
            act(2, 0, 15, 6, -1) -> 0
            told(1, 3) -> 6
            """);
        runs.run("putters in the row are served by takers, in their order", """
            make(5, 2) -> 0
            act(0, 0, 15, 1, -1) -> 0
            act(0, 0, 15, 2, -1) -> 0
            act(0, 0, 15, 3, -1) -> 1
            act(1, 0, 15, 4, -1) -> 1
            row 0 -> 0 1
            act(2, 0, 16, 0, -1) -> 0
            told(2, 3) -> 1
            told(0, 0) -> 0
            object 0 -> 5 2 0 1 0 0 0 0
            act(2, 0, 16, 0, -1) -> 0
            told(2, 3) -> 2
            object 0 -> 5 2 0 0 0 0 0 0
            act(2, 0, 16, 0, -1) -> 0
            told(2, 3) -> 3
            act(2, 0, 16, 0, -1) -> 0
            told(2, 3) -> 4
            counts -> 1 8 0 0 0 0 6
            """);
        runs.run("takes in the row don't hold up a put for a moment", """
            make(5, 1) -> 0
            act(0, 0, 16, 0, -1) -> 1
            act(1, 0, 16, 0, -1) -> 1
            act(2, 0, 15, 5, 0) -> 0
            interrupt(2)
            act(2, 0, 15, 6, -1) -> 0
            thread 2 -> 0 0 -1 0 1 -1
            told(0, 3) -> 5
            told(1, 3) -> 6
            """);
        runs.run("what an impatient putter wanted to put is gone with it", """
            make(5, 1) -> 0
            act(0, 0, 15, 1, -1) -> 0
            act(1, 0, 15, 2, 1) -> 1
            act(2, 0, 15, 3, -1) -> 1
            tick(1) -> 1
            act(3, 0, 16, 0, -1) -> 0
            told(3, 3) -> 1
            act(3, 0, 16, 0, -1) -> 0
            told(3, 3) -> 3
            """);
        runs.finish();
    }
}
