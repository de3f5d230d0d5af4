/** Promise 3: what act throws, and in which order. */
public final class Promise03ActThrowsTest {
    public static void main(String[] args) {
        Runs runs = new Runs("Promise 3: what act throws");
        badNumbers(runs);
        argsThatAreFree(runs);
        unfitActs(runs);
        orderOfThrows(runs);
        runs.finish();
    }

    private static void badNumbers(Runs runs) {
        runs.run("bad numbers", """
            make(0, 1) -> 0
            make(2, 3) -> 1
            act(-1, 0, 0, 0, -1) -> throws.IllegalArgumentException
            act(6, 0, 0, 0, -1) -> throws.IllegalArgumentException
            act(0, -1, 0, 0, -1) -> throws.IllegalArgumentException
            act(0, 2, 0, 0, -1) -> throws.IllegalArgumentException
            act(0, 6, 0, 0, -1) -> throws.IllegalArgumentException
            act(0, 0, -1, 0, -1) -> throws.IllegalArgumentException
            act(0, 0, 17, 0, -1) -> throws.IllegalArgumentException
            act(0, 0, 0, 0, -2) -> throws.IllegalArgumentException
            act(0, 0, 0, 0, 101) -> throws.IllegalArgumentException
            act(0, 0, 0, 0, 100) -> 0
            act(0, 0, 2, -1, -1) -> throws.IllegalArgumentException
            act(0, 0, 2, 2, -1) -> throws.IllegalArgumentException
            act(0, 0, 3, -1, -1) -> throws.IllegalArgumentException
            act(0, 0, 3, 2, -1) -> throws.IllegalArgumentException
            act(0, 0, 4, -1, -1) -> throws.IllegalArgumentException
            act(0, 0, 4, 2, -1) -> throws.IllegalArgumentException
            act(0, 1, 9, 0, -1) -> throws.IllegalArgumentException
            act(0, 1, 9, 4, -1) -> throws.IllegalArgumentException
            act(0, 1, 10, 0, -1) -> throws.IllegalArgumentException
            act(0, 1, 10, 4, -1) -> throws.IllegalArgumentException
            act(0, 1, 10, -3, -1) -> throws.IllegalArgumentException
            act(0, 1, 9, 3, -1) -> 0
            act(0, 1, 10, 1, -1) -> 0
            """);
    }

    private static void argsThatAreFree(Runs runs) {
        runs.run("any arg does for the other acts", """
            make(0, 1) -> 0
            make(1, 1) -> 1
            make(3, 1) -> 2
            make(4, 1) -> 3
            make(5, 1) -> 4
            act(0, 0, 0, -5, -1) -> 0
            act(0, 0, 1, 99, -1) -> 0
            act(0, 1, 5, -5, -1) -> 0
            act(0, 1, 6, 7, -1) -> 0
            act(0, 1, 7, 2147483647, -1) -> 0
            act(0, 1, 8, -2147483648, -1) -> 0
            act(0, 2, 12, 44, -1) -> 0
            act(0, 2, 11, -44, -1) -> 0
            act(0, 3, 13, 9, -1) -> 0
            act(0, 3, 14, -9, -1) -> 0
            act(0, 4, 15, -2147483648, -1) -> 0
            act(0, 4, 16, 1000, -1) -> 0
            told(0, 3) -> -2147483648
            """);
    }

    private static void unfitActs(Runs runs) {
        int[] firstActOfKind = {0, 5, 9, 11, 13, 15, 17};
        for (int kind = 0; kind < 6; kind++) {
            StringBuilder text = new StringBuilder("make(" + kind + ", 1) -> 0\n");
            for (int act = 0; act < 17; act++) {
                if (act < firstActOfKind[kind] || act >= firstActOfKind[kind + 1]) {
                    text.append("act(0, 0, " + act + ", 1, -1) -> throws.UnsupportedOperationException\n");
                }
            }
            runs.run("acts that kind " + kind + " hasn't", text.toString());
        }
    }

    private static void orderOfThrows(Runs runs) {
        runs.run("bad, then unfit, then not now", """
            make(0, 1) -> 0
            act(0, 0, 0, 0, -1) -> 0
            act(1, 0, 0, 0, -1) -> 1
            act(1, 0, 9, 0, -1) -> throws.IllegalArgumentException        # bad arg, unfit, blocked
            act(1, 0, 15, 0, 101) -> throws.IllegalArgumentException      # bad patience, unfit, blocked
            act(1, 0, 2, 2, -1) -> throws.IllegalArgumentException        # bad arg, blocked
            act(1, 0, 9, 1, -1) -> throws.UnsupportedOperationException   # unfit, blocked
            act(1, 0, 0, 0, -1) -> throws.IllegalStateException           # blocked
            act(2, 0, 1, 0, -1) -> throws.IllegalStateException           # doesn't hold
            """);
        runs.run("a thread that doesn't run can't act anywhere", """
            make(0, 1) -> 0
            make(2, 3) -> 1
            act(0, 0, 0, 0, -1) -> 0
            act(0, 0, 2, 0, -1) -> 1
            act(0, 0, 0, 0, -1) -> throws.IllegalStateException
            act(0, 1, 9, 1, -1) -> throws.IllegalStateException
            act(0, 1, 10, 1, -1) -> throws.IllegalStateException
            act(1, 0, 0, 0, -1) -> 0
            act(2, 0, 0, 0, -1) -> 1
            act(2, 1, 9, 1, 0) -> throws.IllegalStateException
            object(1, 1) -> 3
            """);
    }
}
