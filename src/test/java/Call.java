import java.util.ArrayList;
import java.util.List;

/** One call of a run, as Runs writes it: it can be made on any yard. */
final class Call {
    /** An object is used for at most so many calls; what later ones answer is free. */
    static final int MOST_OF_A_YARD = 512;

    private final String text;
    private final String name;
    private final boolean hasBrackets;
    private final int[] numbers;

    Call(String text) {
        this.text = text;
        name = text.split("[ (]")[0];
        hasBrackets = text.contains("(");
        numbers = numbersIn(text);
    }

    /** A yard on which these calls have been made. */
    static Yard yardAfter(List<Call> calls) {
        Yard yard = Yard.ofClass();
        for (Call call : calls) {
            call.answerOn(yard);
        }
        return yard;
    }

    boolean onlyAsks() {
        return !List.of("make", "act", "tick", "interrupt").contains(name);
    }

    /** How many of the yard's own calls it takes at most. */
    int cost() {
        if (hasBrackets) {
            return 1;
        }
        return name.equals("thread") ? 6 : name.equals("object") ? 8 : 7;
    }

    /** What it answers, or throws.NameOfTheException. */
    String answerOn(Yard yard) {
        try {
            return answer(yard, numbers);
        } catch (RuntimeException e) {
            return "throws." + e.getClass().getSimpleName();
        }
    }

    private String answer(Yard yard, int[] n) {
        switch (name) {
            case "make":
                return String.valueOf(yard.make(n[0], n[1]));
            case "act":
                return String.valueOf(yard.act(n[0], n[1], n[2], n[3], n[4]));
            case "tick":
                return String.valueOf(yard.tick(n[0]));
            case "interrupt":
                yard.interrupt(n[0]);
                return "";
            case "told":
                return String.valueOf(yard.told(n[0], n[1]));
            case "object":
                return hasBrackets ? String.valueOf(yard.object(n[0], n[1])) : joined(View.object(yard, n[0]));
            case "waiter":
                return String.valueOf(yard.waiter(n[0], n[1]));
            case "stuck":
                return String.valueOf(yard.stuck());
            case "count":
                return String.valueOf(yard.count(n[0]));
            case "thread":
                return joined(View.thread(yard, n[0]));
            case "row":
                return joined(View.row(yard, n[0]));
            case "counts":
                return joined(View.counts(yard));
            default:
                throw new AssertionError("no such call: " + text);
        }
    }

    private static String joined(int[] answers) {
        StringBuilder text = new StringBuilder();
        for (int answer : answers) {
            text.append(text.length() == 0 ? "" : " ").append(answer);
        }
        return answers.length == 0 ? "none" : text.toString();
    }

    private static int[] numbersIn(String text) {
        List<Integer> found = new ArrayList<>();
        for (String part : text.split("[^-0-9]+")) {
            if (!part.isEmpty()) {
                found.add(Integer.parseInt(part));
            }
        }
        return found.stream().mapToInt(Integer::intValue).toArray();
    }

    @Override
    public String toString() {
        return text;
    }
}
