import java.util.ArrayList;
import java.util.List;
import java.util.Random;

/**
 * Random runs on the class and on a second reading of the document: every call must answer or throw
 * the same, and at the end of the run both must tell the same of themselves.
 */
public final class SecondReadingTest {
    private static final int RUNS = 2000;
    /** So many that the yard can tell all of itself behind them within its 512 calls. */
    private static final int MOST_CALLS = Call.MOST_OF_A_YARD - View.COST;

    public static void main(String[] args) {
        int wrong = 0;
        for (int seed = 0; seed < RUNS; seed++) {
            wrong += differsSomewhere(seed) ? 1 : 0;
        }
        System.out.println("Second reading: " + RUNS + " runs, " + wrong + " of them with another answer");
        System.exit(wrong == 0 ? 0 : 1);
    }

    private static boolean differsSomewhere(int seed) {
        int length = 1 + new Random(seed).nextInt(MOST_CALLS);
        AnyCalls anyCalls = new AnyCalls(seed);
        Yard yard = Yard.ofClass();
        Yard second = new SecondReading();
        List<Call> calls = new ArrayList<>();
        for (int i = 0; i < length; i++) {
            Call call = anyCalls.next(new View(second));
            calls.add(call);
            String due = call.answerOn(second);
            String got = call.answerOn(yard);
            if (!got.equals(due)) {
                System.out.println("run " + seed + ": " + calls + " answered " + got + ", due is " + due);
                return true;
            }
        }
        String due = new View(second).toString();
        String told = new View(yard).toString();
        if (!told.equals(due)) {
            System.out.println("run " + seed + ": behind " + calls + " is told\n" + told + "due is\n" + due);
        }
        return !told.equals(due);
    }
}
