import java.util.ArrayDeque;
import java.util.ArrayList;
import java.util.Deque;
import java.util.List;
import java.util.Map;
import java.util.NoSuchElementException;
import java.util.Set;
import java.util.TreeMap;
import java.util.TreeSet;

/**
 * The document written down a second time, in another build than the class: slow, and as near to the
 * words as can be. Where the two differ, one of them doesn't do what the document says. Both are by
 * the same hand, so that they may misread it alike: that they agree is no proof.
 */
final class SecondReading implements Yard {
    private static final int DONE = 0;
    private static final int NOT_ENDED = 1;
    private static final int TIMED_OUT = 2;
    private static final int BROKEN = 3;
    private static final int INTERRUPTED = 4;

    private static final int WITHOUT_END = -1;
    private static final List<Set<Integer>> ACTS_OF_KIND = List.of(Set.of(0, 1, 2, 3, 4),
        Set.of(5, 6, 7, 8), Set.of(9, 10), Set.of(11, 12), Set.of(13, 14), Set.of(15, 16));
    private static final Set<Integer> NEVER_BLOCKED = Set.of(1, 3, 4, 6, 8, 10, 12, 14);

    private final List<Actor> threads = new ArrayList<>();
    private final List<Thing> things = new ArrayList<>();
    private final Map<Integer, Integer> ended = new TreeMap<>();
    private int ticks;

    private static final class Actor {
        final int number;
        Thing blockedAt;
        Thing waitsAt;
        int outcome = DONE;
        int value;
        boolean marked;
        int patience = WITHOUT_END;
        int act;
        int arg;
        /** How often it takes the LOCK again, 0 for one that hasn't waited. */
        int again;
        int outcomeAgain;

        Actor(int number) {
            this.number = number;
        }

        boolean runs() {
            return blockedAt == null && waitsAt == null;
        }
    }

    private static final class Thing {
        final int number;
        final int kind;
        final int size;
        final List<Actor> row = new ArrayList<>();
        final List<List<Actor>> conditions = List.of(new ArrayList<>(), new ArrayList<>());
        /** How often a thread, by its number, HOLDS or WRITES, and READS. */
        final Map<Integer, Integer> has = new TreeMap<>();
        final Map<Integer, Integer> reads = new TreeMap<>();
        final Deque<Integer> ints = new ArrayDeque<>();
        /** PERMITS, or where the LATCH is. */
        int level;
        boolean broken;

        Thing(int number, int kind, int size) {
            this.number = number;
            this.kind = kind;
            this.size = size;
            this.level = size;
        }
    }

    SecondReading() {
        for (int t = 0; t <= 5; t++) {
            threads.add(new Actor(t));
        }
    }

    @Override
    public int make(int kind, int size) {
        bad(isOut(kind, 0, 5) || isOut(size, 1, 3));
        notNow(things.size() == 6);
        things.add(new Thing(things.size(), kind, size));
        return things.size() - 1;
    }

    @Override
    public int act(int t, int o, int act, int arg, int patience) {
        bad(isOut(t, 0, 5) || isOut(o, 0, things.size() - 1) || isOut(act, 0, 16) || isOut(patience, -1, 100));
        bad(Set.of(2, 3, 4).contains(act) && isOut(arg, 0, 1) || Set.of(9, 10).contains(act) && isOut(arg, 1, 3));
        Actor thread = threads.get(t);
        Thing thing = things.get(o);
        if (!ACTS_OF_KIND.get(thing.kind).contains(act)) {
            throw new UnsupportedOperationException();
        }
        notNow(!thread.runs());
        notNow(Set.of(1, 2, 3, 4, 8).contains(act) && !thing.has.containsKey(t));
        notNow(act == 6 && !thing.reads.containsKey(t));
        notNow(act == 10 && thing.level + arg > 50);
        thread.act = act;
        thread.arg = arg;
        thread.outcome = NOT_ENDED;
        begin(thread, thing, patience);
        return thread.outcome;
    }

    private void begin(Actor thread, Thing thing, int patience) {
        boolean arrives = thread.act == 13;
        if (arrives && thing.broken) {
            end(thread, BROKEN);
        } else if (isGrantedAtOnce(thread, thing)) {
            end(thread, DONE);
            effect(thread, thing);
            changed(thing);
        } else if (thread.marked) {
            thread.marked = false;
            end(thread, INTERRUPTED);
            if (arrives) {
                breakUp(thing);
            }
        } else if (patience == 0) {
            end(thread, TIMED_OUT);
        } else if (thread.act == 2) {
            thread.patience = patience;
            thread.waitsAt = thing;
            thread.again = thing.has.remove(thread.number);
            thing.conditions.get(thread.arg).add(thread);
            changed(thing);
        } else {
            thread.patience = patience;
            thread.blockedAt = thing;
            thing.row.add(thread);
        }
    }

    private static boolean isGrantedAtOnce(Actor thread, Thing thing) {
        if (thread.act == 2) {
            return false;
        }
        if (NEVER_BLOCKED.contains(thread.act)) {
            return true;
        }
        boolean alreadyIn = Set.of(0, 5, 7).contains(thread.act) && thing.has.containsKey(thread.number);
        if (alreadyIn) {
            return true;
        }
        if (thread.act == 13) {
            return thing.row.size() + 1 == thing.size;
        }
        return canBe(thread, thing) && thing.row.stream().noneMatch(other -> isOfOneSort(thread, other));
    }

    private static boolean isOfOneSort(Actor one, Actor other) {
        boolean putAndTake = one.act >= 15 && other.act >= 15 && one.act != other.act;
        return !putAndTake;
    }

    /** Whether the act can be, apart from the row, if its thread isn't in already. */
    private static boolean canBe(Actor thread, Thing thing) {
        boolean noOtherReads = Set.of(thread.number).containsAll(thing.reads.keySet());
        switch (thread.act) {
            case 0:
            case 2:
            case 5:
                return thing.has.isEmpty();
            case 7:
                return thing.has.isEmpty() && noOtherReads;
            case 9:
                return thing.level >= thread.arg;
            case 11:
                return thing.level == 0;
            case 15:
                return thing.ints.size() < thing.size;
            case 16:
                return !thing.ints.isEmpty();
            default:
                return false;
        }
    }

    private void effect(Actor thread, Thing thing) {
        int t = thread.number;
        switch (thread.act) {
            case 0:
            case 7:
                thing.has.merge(t, 1, Integer::sum);
                break;
            case 1:
            case 8:
                onceLess(thing.has, t);
                break;
            case 2:
                thing.has.put(t, thread.again);
                break;
            case 3:
                thing.conditions.get(thread.arg).stream().findFirst().ifPresent(first -> call(first, thing, DONE));
                break;
            case 4:
                List.copyOf(thing.conditions.get(thread.arg)).forEach(each -> call(each, thing, DONE));
                break;
            case 5:
                thing.reads.merge(t, 1, Integer::sum);
                break;
            case 6:
                onceLess(thing.reads, t);
                break;
            default:
                effectBeyondLocks(thread, thing);
                break;
        }
    }

    private void effectBeyondLocks(Actor thread, Thing thing) {
        switch (thread.act) {
            case 9:
                thing.level -= thread.arg;
                break;
            case 10:
                thing.level += thread.arg;
                break;
            case 12:
                thing.level = Math.max(0, thing.level - 1);
                break;
            case 13:
                endAll(thing, DONE);
                break;
            case 14:
                endAll(thing, BROKEN);
                thing.broken = false;
                break;
            case 15:
                thing.ints.addLast(thread.arg);
                break;
            case 16:
                thread.value = thing.ints.removeFirst();
                break;
            default:
                break;
        }
    }

    private static void onceLess(Map<Integer, Integer> times, int t) {
        times.computeIfPresent(t, (key, before) -> before == 1 ? null : before - 1);
    }

    private static void call(Actor thread, Thing lock, int outcome) {
        lock.conditions.get(thread.arg).remove(thread);
        lock.row.add(thread);
        thread.waitsAt = null;
        thread.blockedAt = lock;
        thread.patience = WITHOUT_END;
        thread.outcomeAgain = outcome;
    }

    private void changed(Thing thing) {
        boolean somethingWasGranted = true;
        while (somethingWasGranted) {
            somethingWasGranted = false;
            List<Actor> couldnt = new ArrayList<>();
            for (Actor thread : List.copyOf(thing.row)) {
                if (canBe(thread, thing) && couldnt.stream().noneMatch(before -> isOfOneSort(thread, before))) {
                    thing.row.remove(thread);
                    effect(thread, thing);
                    end(thread, thread.act == 2 ? thread.outcomeAgain : DONE);
                    somethingWasGranted = true;
                } else {
                    couldnt.add(thread);
                }
            }
        }
    }

    private void end(Actor thread, int outcome) {
        thread.blockedAt = null;
        thread.waitsAt = null;
        thread.patience = WITHOUT_END;
        thread.outcome = outcome;
        ended.merge(outcome, 1, Integer::sum);
    }

    private void endAll(Thing thing, int outcome) {
        thing.row.forEach(thread -> end(thread, outcome));
        thing.row.clear();
    }

    private void breakUp(Thing barrier) {
        barrier.broken = true;
        endAll(barrier, BROKEN);
    }

    /** INTERRUPTED or TIMED OUT where it is BLOCKED or WAITS. */
    private void giveUp(Actor thread, int outcome) {
        if (thread.waitsAt != null) {
            Thing lock = thread.waitsAt;
            call(thread, lock, outcome);
            changed(lock);
            return;
        }
        Thing thing = thread.blockedAt;
        thing.row.remove(thread);
        end(thread, outcome);
        if (thing.kind == 4) {
            breakUp(thing);
        }
        changed(thing);
    }

    @Override
    public int tick(int n) {
        bad(isOut(n, 1, 50));
        int timedOut = 0;
        for (int i = 0; i < n; i++) {
            ticks++;
            threads.stream().filter(thread -> thread.patience > 0).forEach(thread -> thread.patience--);
            for (Actor thread : threads) {
                if (thread.patience == 0) {
                    giveUp(thread, TIMED_OUT);
                    timedOut++;
                }
            }
        }
        return timedOut;
    }

    @Override
    public void interrupt(int t) {
        bad(isOut(t, 0, 5));
        Actor thread = threads.get(t);
        boolean takesAgain = thread.blockedAt != null && thread.act == 2;
        if (thread.runs() || takesAgain) {
            thread.marked = true;
        } else {
            giveUp(thread, INTERRUPTED);
        }
    }

    @Override
    public int told(int t, int what) {
        bad(isOut(t, 0, 5) || isOut(what, 0, 5));
        Actor thread = threads.get(t);
        Thing where = thread.blockedAt != null ? thread.blockedAt : thread.waitsAt;
        switch (what) {
            case 0:
                return thread.runs() ? 0 : thread.blockedAt != null ? 1 : 2;
            case 1:
                return thread.outcome;
            case 2:
                return where == null ? -1 : where.number;
            case 3:
                return thread.value;
            case 4:
                return thread.marked ? 1 : 0;
            default:
                return thread.patience;
        }
    }

    @Override
    public int object(int o, int what) {
        bad(isOut(o, 0, things.size() - 1) || isOut(what, 0, 7));
        Thing thing = things.get(o);
        switch (what) {
            case 0:
                return thing.kind;
            case 1:
                return level(thing);
            case 2:
                return thing.kind > 1 ? 0 : thing.has.isEmpty() ? -1 : thing.has.keySet().iterator().next();
            case 3:
                return thing.row.size();
            case 4:
            case 5:
                return thing.conditions.get(what - 4).size();
            case 6:
                return sum(thing.reads);
            default:
                return thing.broken ? 1 : 0;
        }
    }

    private static int level(Thing thing) {
        switch (thing.kind) {
            case 0:
            case 1:
                return sum(thing.has);
            case 4:
                return thing.row.size();
            case 5:
                return thing.ints.size();
            default:
                return thing.level;
        }
    }

    private static int sum(Map<Integer, Integer> times) {
        return times.values().stream().mapToInt(Integer::intValue).sum();
    }

    @Override
    public int waiter(int o, int i) {
        bad(isOut(o, 0, things.size() - 1));
        List<Actor> row = things.get(o).row;
        if (isOut(i, 0, row.size() - 1)) {
            throw new NoSuchElementException();
        }
        return row.get(i).number;
    }

    @Override
    public int stuck() {
        return (int) threads.stream().filter(thread -> reachedByLeaning(thread).contains(thread.number)).count();
    }

    private Set<Integer> reachedByLeaning(Actor start) {
        Set<Integer> reached = new TreeSet<>();
        Actor at = start;
        while (at.blockedAt != null && at.blockedAt.kind == 0) {
            int holder = at.blockedAt.has.keySet().iterator().next();
            if (!reached.add(holder)) {
                break;
            }
            at = threads.get(holder);
        }
        return reached;
    }

    @Override
    public int count(int what) {
        switch (what) {
            case 0:
                return things.size();
            case 1:
                return ended.getOrDefault(DONE, 0);
            case 2:
            case 3:
            case 4:
                return ended.getOrDefault(what, 0);
            case 5:
                return ticks;
            case 6:
                return (int) threads.stream().filter(Actor::runs).count();
            default:
                return -1;
        }
    }

    private static boolean isOut(int number, int least, int most) {
        return number < least || number > most;
    }

    private static void bad(boolean is) {
        if (is) {
            throw new IllegalArgumentException();
        }
    }

    private static void notNow(boolean is) {
        if (is) {
            throw new IllegalStateException();
        }
    }
}
