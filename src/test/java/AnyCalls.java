import java.util.ArrayList;
import java.util.Arrays;
import java.util.List;
import java.util.Random;
import java.util.stream.Collectors;

/**
 * Random calls. A run keeps to a few kinds of objects, and mostly to threads that run or hold what
 * the act is for and to acts that the object has, so that much happens in it; but every number is
 * now and then a bad one.
 */
final class AnyCalls {
    private static final int[] FIRST_ACT = {0, 5, 9, 11, 13, 15, 17};

    private final Random random;
    private final int[] kinds;
    private final int mostPatience;

    AnyCalls(int seed) {
        random = new Random(seed);
        kinds = random.ints(1 + random.nextInt(4), 0, 6).toArray();
        mostPatience = 1 + random.nextInt(10);
    }

    /** A call on a yard that tells of itself what the view says. */
    Call next(View view) {
        int objects = view.counts[0];
        int choice = random.nextInt(100);
        if (objects == 0 && choice < 80 || choice < 3) {
            return call("make", oneIn(9) ? random.nextInt(8) - 1 : kinds[random.nextInt(kinds.length)],
                oneIn(9) ? random.nextInt(6) - 1 : 1 + random.nextInt(3));
        }
        if (choice < 12) {
            return call("tick", oneIn(20) ? random.nextInt(54) - 1 : 1 + random.nextInt(3));
        }
        if (choice < 20) {
            return call("interrupt", oneIn(30) ? random.nextInt(9) - 2 : random.nextInt(6));
        }
        if (choice < 30) {
            return anyQuestion();
        }
        return choice < 33 || objects == 0 ? anyAct() : likelyAct(view);
    }

    private Call anyQuestion() {
        switch (random.nextInt(5)) {
            case 0:
                return call("told", random.nextInt(8) - 1, random.nextInt(8) - 1);
            case 1:
                return call("object", random.nextInt(8) - 1, random.nextInt(10) - 1);
            case 2:
                return call("waiter", random.nextInt(8) - 1, random.nextInt(8) - 1);
            case 3:
                return call("count", random.nextInt(9) - 1);
            default:
                return call("stuck");
        }
    }

    private Call anyAct() {
        return call("act", random.nextInt(8) - 1, random.nextInt(8) - 1, random.nextInt(19) - 1,
            random.nextInt(6) - 1, random.nextInt(104) - 2);
    }

    private Call likelyAct(View view) {
        int o = random.nextInt(view.counts[0]);
        int act = actOfKind(view.objects[o][0]);
        int arg = act == 9 || act == 10 ? 1 + random.nextInt(3)
            : act == 15 ? random.nextInt() : random.nextInt(2);
        int patience = oneIn(4) ? -1 : random.nextInt(mostPatience + 1);
        boolean isForOwner = act >= 1 && act <= 4 || act == 8;
        int owner = isForOwner && !oneIn(5) ? view.objects[o][2] : -1;
        return call("act", owner == -1 ? likelyThread(view) : owner, o, act, arg, patience);
    }

    private int actOfKind(int kind) {
        // Three of the five acts at a lock call or wait, and nothing comes of them if nobody takes it.
        boolean takesLock = kind == 0 && oneIn(3);
        return takesLock ? 0 : FIRST_ACT[kind] + random.nextInt(FIRST_ACT[kind + 1] - FIRST_ACT[kind]);
    }

    private int likelyThread(View view) {
        List<Integer> running = new ArrayList<>();
        for (int t = 0; t < view.threads.length; t++) {
            if (view.threads[t][0] == 0) {
                running.add(t);
            }
        }
        return running.isEmpty() || oneIn(9) ? random.nextInt(6) : running.get(random.nextInt(running.size()));
    }

    private boolean oneIn(int n) {
        return random.nextInt(n) == 0;
    }

    private static Call call(String name, int... numbers) {
        String list = Arrays.stream(numbers).mapToObj(String::valueOf).collect(Collectors.joining(", "));
        return new Call(name + "(" + list + ")");
    }
}
