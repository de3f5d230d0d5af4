/** Promise 1: all THREADS RUN; no OBJECTS. */
public final class Promise01NewObjectTest {
    public static void main(String[] args) {
        Runs runs = new Runs("Promise 1: a new object");
        runs.run("all threads run", """
            thread 0 -> 0 0 -1 0 0 -1
            thread 1 -> 0 0 -1 0 0 -1
            thread 2 -> 0 0 -1 0 0 -1
            thread 3 -> 0 0 -1 0 0 -1
            thread 4 -> 0 0 -1 0 0 -1
            thread 5 -> 0 0 -1 0 0 -1
            counts -> 0 0 0 0 0 0 6
            stuck() -> 0
            """);
        runs.run("no objects", """
            object(0, 0) -> throws.IllegalArgumentException
            waiter(0, 0) -> throws.IllegalArgumentException
            act(0, 0, 0, 0, -1) -> throws.IllegalArgumentException
            make(0, 1) -> 0
            """);
        runs.run("an act in one yard", """
            make(0, 1) -> 0
            act(0, 0, 0, 0, -1) -> 0
            act(1, 0, 0, 0, -1) -> 1
            interrupt(2)
            tick(3) -> 0
            """);
        runs.run("does nothing to another", """
            counts -> 0 0 0 0 0 0 6
            thread 1 -> 0 0 -1 0 0 -1
            thread 2 -> 0 0 -1 0 0 -1
            """);
        runs.finish();
    }
}
