import java.util.NoSuchElementException;

/**
 * A yard of threads and what they meet at: locks with conditions, locks for readers and writers,
 * semaphores, latches, barriers and queues. The document shared/DOC.md says what each call does;
 * words in capitals there are the names used here (its OBJECTS are called places).
 */
public final class MonitorYard {
    private static final int THREADS = 6;
    private static final int MOST_PLACES = 6;
    private static final int MOST_SIZE = 3;
    private static final int MOST_PERMITS = 50;
    private static final int MOST_PATIENCE = 100;
    private static final int MOST_TICKS = 50;
    private static final int ENDLESS = -1;
    private static final int NONE = -1;

    private static final int LOCK = 0;
    private static final int BOOK = 1;
    private static final int SEMAPHORE = 2;
    private static final int LATCH = 3;
    private static final int BARRIER = 4;
    private static final int QUEUE = 5;

    private static final int TAKE_LOCK = 0;
    private static final int LEAVE_LOCK = 1;
    private static final int WAIT = 2;
    private static final int CALL_ONE = 3;
    private static final int CALL_ALL = 4;
    private static final int READ = 5;
    private static final int CLOSE_READING = 6;
    private static final int WRITE = 7;
    private static final int CLOSE_WRITING = 8;
    private static final int ASK = 9;
    private static final int GIVE = 10;
    private static final int STAND = 11;
    private static final int DOWN = 12;
    private static final int ARRIVE = 13;
    private static final int RESET = 14;
    private static final int PUT = 15;
    private static final int TAKE_FIRST = 16;

    private static final int[] KIND_OF_ACT = {
        LOCK, LOCK, LOCK, LOCK, LOCK, BOOK, BOOK, BOOK, BOOK, SEMAPHORE, SEMAPHORE,
        LATCH, LATCH, BARRIER, BARRIER, QUEUE, QUEUE
    };

    private static final int RUNS = 0;
    private static final int BLOCKED = 1;
    private static final int WAITS = 2;

    private static final int DONE = 0;
    private static final int NOT_ENDED = 1;
    private static final int TIMED_OUT = 2;
    private static final int BROKEN = 3;
    private static final int INTERRUPTED = 4;
    private static final int OUTCOMES = 5;

    private final YardThread[] threads = new YardThread[THREADS];
    private final Place[] places = new Place[MOST_PLACES];
    private int placeCount;
    private int ticks;

    public MonitorYard() {
        for (int t = 0; t < THREADS; t++) {
            threads[t] = new YardThread(t);
        }
    }

    public int make(int kind, int size) throws IllegalArgumentException, IllegalStateException {
        if (kind < LOCK || kind > QUEUE || size < 1 || size > MOST_SIZE) {
            throw new IllegalArgumentException();
        }
        if (placeCount >= MOST_PLACES) {
            throw new IllegalStateException();
        }
        int number = placeCount;
        places[number] = newPlace(kind, number, size);
        placeCount++;
        return number;
    }

    public int act(int t, int o, int act, int arg, int patience)
            throws IllegalArgumentException, IllegalStateException, UnsupportedOperationException {
        YardThread thread = threadAt(t);
        Place place = placeAt(o);
        if (thread == null || place == null || !isAct(act, arg) || !isPatience(patience)) {
            throw new IllegalArgumentException();
        }
        if (KIND_OF_ACT[act] != place.kind) {
            throw new UnsupportedOperationException();
        }
        if (thread.state != RUNS || !place.allows(thread, act, arg)) {
            throw new IllegalStateException();
        }
        thread.begin(act, arg);
        place.perform(thread, patience);
        place.settle();
        return thread.outcome;
    }

    public int tick(int n) throws IllegalArgumentException {
        if (n < 1 || n > MOST_TICKS) {
            throw new IllegalArgumentException();
        }
        int timedOut = 0;
        for (int i = 0; i < n; i++) {
            timedOut += passOneTick();
        }
        return timedOut;
    }

    public void interrupt(int t) throws IllegalArgumentException {
        YardThread thread = threadAt(t);
        if (thread == null) {
            throw new IllegalArgumentException();
        }
        Place place = thread.place;
        if (place == null || thread.takesAgain()) {
            thread.marked = true;
        } else {
            place.giveUp(thread, INTERRUPTED);
            place.settle();
        }
    }

    public int told(int t, int what) throws IllegalArgumentException {
        YardThread thread = threadAt(t);
        if (thread == null || what < 0 || what > 5) {
            throw new IllegalArgumentException();
        }
        switch (what) {
            case 0:
                return thread.state;
            case 1:
                return thread.outcome;
            case 2:
                return thread.place == null ? NONE : thread.place.number;
            case 3:
                return thread.value;
            case 4:
                return thread.marked ? 1 : 0;
            default:
                return thread.patience;
        }
    }

    public int object(int o, int what) throws IllegalArgumentException {
        Place place = placeAt(o);
        if (place == null || what < 0 || what > 7) {
            throw new IllegalArgumentException();
        }
        switch (what) {
            case 0:
                return place.kind;
            case 1:
                return place.level();
            case 2:
                return place.owner();
            case 3:
                return place.row.length;
            case 4:
                return place.waitersAt(0);
            case 5:
                return place.waitersAt(1);
            case 6:
                return place.timesRead();
            default:
                return place.isBroken() ? 1 : 0;
        }
    }

    public int waiter(int o, int i) throws IllegalArgumentException, NoSuchElementException {
        Place place = placeAt(o);
        if (place == null) {
            throw new IllegalArgumentException();
        }
        YardThread found = place.row.at(i);
        if (found == null) {
            throw new NoSuchElementException();
        }
        return found.number;
    }

    public int stuck() {
        int stuckThreads = 0;
        for (YardThread thread : threads) {
            if (comesBackByLeaning(thread)) {
                stuckThreads++;
            }
        }
        return stuckThreads;
    }

    public int count(int what) {
        switch (what) {
            case 0:
                return placeCount;
            case 1:
                return actsEnded(DONE);
            case 2:
                return actsEnded(TIMED_OUT);
            case 3:
                return actsEnded(BROKEN);
            case 4:
                return actsEnded(INTERRUPTED);
            case 5:
                return ticks;
            case 6:
                return runningThreads();
            default:
                return -1;
        }
    }

    private YardThread threadAt(int t) {
        return t < 0 || t >= THREADS ? null : threads[t];
    }

    private Place placeAt(int o) {
        return o < 0 || o >= placeCount ? null : places[o];
    }

    private static Place newPlace(int kind, int number, int size) {
        switch (kind) {
            case LOCK:
                return new Lock(number);
            case BOOK:
                return new Book(number);
            case SEMAPHORE:
                return new Semaphore(number, size);
            case LATCH:
                return new Latch(number, size);
            case BARRIER:
                return new Barrier(number, size);
            default:
                return new Queue(number, size);
        }
    }

    private static boolean isAct(int act, int arg) {
        switch (act) {
            case WAIT:
            case CALL_ONE:
            case CALL_ALL:
                return arg == 0 || arg == 1;
            case ASK:
            case GIVE:
                return arg >= 1 && arg <= 3;
            default:
                return act >= 0 && act < KIND_OF_ACT.length;
        }
    }

    private static boolean isPatience(int patience) {
        return patience >= ENDLESS && patience <= MOST_PATIENCE;
    }

    // One thread after another, for the first one's going may let a later one run in the same tick.
    private int passOneTick() {
        ticks++;
        int timedOut = 0;
        for (YardThread thread : threads) {
            Place place = thread.place;
            if (place != null && thread.losesPatience()) {
                place.giveUp(thread, TIMED_OUT);
                place.settle();
                timedOut++;
            }
        }
        return timedOut;
    }

    private static boolean comesBackByLeaning(YardThread start) {
        YardThread reached = start.leansOn();
        for (int step = 1; step < THREADS && reached != null && reached != start; step++) {
            reached = reached.leansOn();
        }
        return reached == start;
    }

    private int actsEnded(int outcome) {
        int sum = 0;
        for (YardThread thread : threads) {
            sum += thread.ended[outcome];
        }
        return sum;
    }

    private int runningThreads() {
        int running = 0;
        for (YardThread thread : threads) {
            if (thread.state == RUNS) {
                running++;
            }
        }
        return running;
    }

    private static int numberOf(YardThread thread) {
        return thread == null ? NONE : thread.number;
    }

    /** A THREAD, with its latest ACT. */
    private static final class YardThread {
        final int number;
        final int[] ended = new int[OUTCOMES];
        int state = RUNS;
        int outcome = DONE;
        /** Where it is BLOCKED or WAITS; null while it RUNS. */
        Place place;
        int value;
        boolean marked;
        int patience = ENDLESS;
        int act;
        int arg;
        /** How often it HELD the LOCK before it WAITED. */
        int timesHeld;
        /** The OUTCOME that its ACT has once it is GRANTED in the ROW. */
        int outcomeWhenGranted;

        YardThread(int number) {
            this.number = number;
        }

        void begin(int newAct, int newArg) {
            act = newAct;
            arg = newArg;
            outcome = NOT_ENDED;
            outcomeWhenGranted = DONE;
        }

        void stay(Place where, int newState, int newPatience) {
            place = where;
            state = newState;
            patience = newPatience;
        }

        void end(int how) {
            place = null;
            state = RUNS;
            patience = ENDLESS;
            outcome = how;
            ended[how]++;
        }

        boolean losesPatience() {
            if (patience <= 0) {
                return false;
            }
            patience--;
            return patience == 0;
        }

        /** Whether it is in the ROW of a LOCK that it had when it WAITED. */
        boolean takesAgain() {
            return state == BLOCKED && act == WAIT;
        }

        YardThread leansOn() {
            return state == BLOCKED && place != null ? place.leanedOn() : null;
        }
    }

    /** Threads one behind the other, the oldest first. A thread stands in one row at most. */
    private static final class Row {
        private final YardThread[] threads = new YardThread[THREADS];
        private int length;

        YardThread at(int i) {
            return i < 0 || i >= length ? null : threads[i];
        }

        void add(YardThread thread) {
            if (length < THREADS) {
                threads[length] = thread;
                length++;
            }
        }

        YardThread removeFirst() {
            YardThread first = at(0);
            if (first != null) {
                remove(first);
            }
            return first;
        }

        void remove(YardThread thread) {
            int kept = 0;
            for (int i = 0; i < length; i++) {
                if (threads[i] != thread) {
                    threads[kept] = threads[i];
                    kept++;
                }
            }
            length = kept;
        }
    }

    /** An OBJECT: what is alike in all kinds. A kind says what its own ACTS need and do. */
    private abstract static class Place {
        final int kind;
        final int number;
        final Row row = new Row();

        Place(int kind, int number) {
            this.kind = kind;
            this.number = number;
        }

        /** Whether the thread's act can be, but for those before it in the ROW. */
        abstract boolean canBe(YardThread thread);

        /** Whether the thread's act is GRANTED whoever is in the ROW. */
        abstract boolean passesRow(YardThread thread);

        /** Does what the thread's act does to this place; its caller ends the act. */
        abstract void grant(YardThread thread);

        /** The number that object() tells of what there is. */
        abstract int level();

        /** Whether the act is not "not now" here. */
        boolean allows(YardThread thread, int act, int arg) {
            return true;
        }

        /** Whether the act ends BROKEN before all else. */
        boolean refuses(YardThread thread) {
            return false;
        }

        /** What comes of it, for the place, that a thread was INTERRUPTED or left the ROW. */
        void whenOneGaveUp() {
        }

        int sortOf(int act) {
            return 0;
        }

        int owner() {
            return 0;
        }

        int waitersAt(int condition) {
            return 0;
        }

        int timesRead() {
            return 0;
        }

        boolean isBroken() {
            return false;
        }

        YardThread leanedOn() {
            return null;
        }

        void perform(YardThread thread, int patience) {
            if (refuses(thread)) {
                thread.end(BROKEN);
            } else if (canBeAtOnce(thread)) {
                grant(thread);
                thread.end(DONE);
            } else if (thread.marked) {
                thread.marked = false;
                thread.end(INTERRUPTED);
                whenOneGaveUp();
            } else if (patience == 0) {
                // A BARRIER stays whole: the thread never was in its ROW.
                thread.end(TIMED_OUT);
            } else {
                holdBack(thread, patience);
            }
        }

        /** BLOCKS the thread, or lets it WAIT. */
        void holdBack(YardThread thread, int patience) {
            joinRow(thread, patience);
        }

        /** Takes a BLOCKED or WAITING thread from where it stands, INTERRUPTED or TIMED OUT. */
        void giveUp(YardThread thread, int outcome) {
            leaveRow(thread, outcome);
        }

        void joinRow(YardThread thread, int patience) {
            row.add(thread);
            thread.stay(this, BLOCKED, patience);
        }

        void leaveRow(YardThread thread, int outcome) {
            row.remove(thread);
            thread.end(outcome);
            whenOneGaveUp();
        }

        void endAllInRow(int outcome) {
            for (int left = row.length; left > 0; left--) {
                YardThread thread = row.removeFirst();
                if (thread != null) {
                    thread.end(outcome);
                }
            }
        }

        // Every pass but the last one GRANTS an act of the ROW, which holds one of each thread.
        void settle() {
            boolean granted = true;
            for (int pass = 0; granted && pass <= THREADS; pass++) {
                granted = goThroughRow();
            }
        }

        private boolean canBeAtOnce(YardThread thread) {
            return passesRow(thread) || canBe(thread) && !hasInRow(sortOf(thread.act));
        }

        private boolean hasInRow(int sort) {
            for (int i = 0; i < row.length; i++) {
                YardThread other = row.at(i);
                if (other != null && sortOf(other.act) == sort) {
                    return true;
                }
            }
            return false;
        }

        private boolean goThroughRow() {
            int waiting = row.length;
            int refusedSorts = 0;
            int passed = 0;
            for (int i = 0; i < waiting; i++) {
                YardThread thread = row.at(passed);
                if (thread == null) {
                    break;
                }
                int sort = 1 << sortOf(thread.act);
                if ((refusedSorts & sort) == 0 && canBe(thread)) {
                    row.remove(thread);
                    grant(thread);
                    thread.end(thread.outcomeWhenGranted);
                } else {
                    refusedSorts |= sort;
                    passed++;
                }
            }
            return passed < waiting;
        }
    }

    private static final class Lock extends Place {
        private final Row condition0 = new Row();
        private final Row condition1 = new Row();
        private YardThread holder;
        private int timesHeld;

        Lock(int number) {
            super(LOCK, number);
        }

        boolean allows(YardThread thread, int act, int arg) {
            return act == TAKE_LOCK || holder == thread;
        }

        // A WAIT that stands in the ROW is there to TAKE the LOCK again. One that begins finds
        // its own thread as the holder, so that it never can be at once.
        boolean canBe(YardThread thread) {
            return holder == null;
        }

        boolean passesRow(YardThread thread) {
            return holder == thread && thread.act != WAIT;
        }

        void grant(YardThread thread) {
            switch (thread.act) {
                case TAKE_LOCK:
                    holder = thread;
                    timesHeld++;
                    break;
                case WAIT:
                    holder = thread;
                    timesHeld = thread.timesHeld;
                    break;
                case LEAVE_LOCK:
                    leaveOnce();
                    break;
                case CALL_ONE:
                    call(thread.arg, 1);
                    break;
                default:
                    call(thread.arg, waitersAt(thread.arg));
                    break;
            }
        }

        void holdBack(YardThread thread, int patience) {
            if (thread.act == WAIT) {
                joinCondition(thread, patience);
            } else {
                joinRow(thread, patience);
            }
        }

        void giveUp(YardThread thread, int outcome) {
            if (thread.state == WAITS) {
                condition(thread.arg).remove(thread);
                takeAgain(thread, outcome);
            } else {
                leaveRow(thread, outcome);
            }
        }

        int level() {
            return timesHeld;
        }

        int owner() {
            return numberOf(holder);
        }

        int waitersAt(int condition) {
            return condition(condition).length;
        }

        YardThread leanedOn() {
            return holder;
        }

        private Row condition(int condition) {
            return condition == 0 ? condition0 : condition1;
        }

        private void joinCondition(YardThread thread, int patience) {
            thread.timesHeld = timesHeld;
            timesHeld = 0;
            holder = null;
            condition(thread.arg).add(thread);
            thread.stay(this, WAITS, patience);
        }

        private void leaveOnce() {
            timesHeld--;
            if (timesHeld == 0) {
                holder = null;
            }
        }

        private void call(int condition, int most) {
            for (int i = 0; i < most; i++) {
                YardThread called = condition(condition).removeFirst();
                if (called != null) {
                    takeAgain(called, DONE);
                }
            }
        }

        private void takeAgain(YardThread thread, int outcome) {
            thread.outcomeWhenGranted = outcome;
            row.add(thread);
            thread.stay(this, BLOCKED, ENDLESS);
        }
    }

    private static final class Book extends Place {
        private final int[] readsOf = new int[THREADS];
        private int reads;
        private YardThread writer;
        private int writes;

        Book(int number) {
            super(BOOK, number);
        }

        boolean allows(YardThread thread, int act, int arg) {
            switch (act) {
                case CLOSE_READING:
                    return readsOf[thread.number] > 0;
                case CLOSE_WRITING:
                    return writer == thread;
                default:
                    return true;
            }
        }

        boolean canBe(YardThread thread) {
            boolean othersWrite = writer != null && writer != thread;
            boolean othersRead = reads > readsOf[thread.number];
            return !othersWrite && (thread.act == READ || !othersRead);
        }

        boolean passesRow(YardThread thread) {
            return writer == thread || thread.act == CLOSE_READING;
        }

        void grant(YardThread thread) {
            switch (thread.act) {
                case READ:
                    countReads(thread, 1);
                    break;
                case CLOSE_READING:
                    countReads(thread, -1);
                    break;
                case WRITE:
                    writer = thread;
                    writes++;
                    break;
                default:
                    closeWritingOnce();
                    break;
            }
        }

        int level() {
            return writes;
        }

        int owner() {
            return numberOf(writer);
        }

        int timesRead() {
            return reads;
        }

        private void countReads(YardThread thread, int change) {
            readsOf[thread.number] += change;
            reads += change;
        }

        private void closeWritingOnce() {
            writes--;
            if (writes == 0) {
                writer = null;
            }
        }
    }

    private static final class Semaphore extends Place {
        private int permits;

        Semaphore(int number, int size) {
            super(SEMAPHORE, number);
            permits = size;
        }

        boolean allows(YardThread thread, int act, int arg) {
            return act != GIVE || permits + arg <= MOST_PERMITS;
        }

        boolean canBe(YardThread thread) {
            return permits >= thread.arg;
        }

        boolean passesRow(YardThread thread) {
            return thread.act == GIVE;
        }

        void grant(YardThread thread) {
            permits += thread.act == GIVE ? thread.arg : -thread.arg;
        }

        int level() {
            return permits;
        }
    }

    private static final class Latch extends Place {
        private int height;

        Latch(int number, int size) {
            super(LATCH, number);
            height = size;
        }

        boolean canBe(YardThread thread) {
            return height == 0;
        }

        boolean passesRow(YardThread thread) {
            return thread.act == DOWN;
        }

        void grant(YardThread thread) {
            if (thread.act == DOWN && height > 0) {
                height--;
            }
        }

        int level() {
            return height;
        }
    }

    private static final class Barrier extends Place {
        private final int size;
        private boolean broken;

        Barrier(int number, int size) {
            super(BARRIER, number);
            this.size = size;
        }

        boolean refuses(YardThread thread) {
            return thread.act == ARRIVE && broken;
        }

        // One in the ROW is let go by the last one to ARRIVE, never by going through the ROW.
        boolean canBe(YardThread thread) {
            return false;
        }

        boolean passesRow(YardThread thread) {
            return thread.act == RESET || row.length + 1 >= size;
        }

        void grant(YardThread thread) {
            if (thread.act == RESET) {
                broken = false;
                endAllInRow(BROKEN);
            } else {
                endAllInRow(DONE);
            }
        }

        void whenOneGaveUp() {
            broken = true;
            endAllInRow(BROKEN);
        }

        int level() {
            return row.length;
        }

        boolean isBroken() {
            return broken;
        }
    }

    private static final class Queue extends Place {
        private final int[] ints;
        private int length;

        Queue(int number, int size) {
            super(QUEUE, number);
            ints = new int[size];
        }

        int sortOf(int act) {
            return act == TAKE_FIRST ? 1 : 0;
        }

        boolean canBe(YardThread thread) {
            return thread.act == PUT ? length < ints.length : length > 0;
        }

        boolean passesRow(YardThread thread) {
            return false;
        }

        void grant(YardThread thread) {
            if (thread.act == PUT) {
                putLast(thread.arg);
            } else {
                thread.value = takeFirst();
            }
        }

        int level() {
            return length;
        }

        private void putLast(int number) {
            if (length < ints.length) {
                ints[length] = number;
                length++;
            }
        }

        private int takeFirst() {
            int first = ints[0];
            length--;
            for (int i = 0; i < length; i++) {
                ints[i] = ints[i + 1];
            }
            return first;
        }
    }
}
