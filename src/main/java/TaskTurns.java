/** Tasks that work by turns. What each call does and answers stands in the document, DOC.md. */
public final class TaskTurns {
    public static final int BAD = -1, NO = -2, FULL = -3, NONE = -4;

    private static final int MOST_TASKS = 12, MOST_ACTS = 16, MOST_LETTERS = 6;
    private static final int MOST_WORKERS = 4, MOST_TURNS = 50;
    private static final int GREATEST_RANK = 9, LONGEST_ROW = 40, BOX_PLACES = 3;
    private static final int STUBBORN_BACKS = 3, PROUD_BACKS = 5;

    // The sorts, the states, the kinds of acts and of boxes, and the failures, each by its number.
    private static final int PLAIN = 0, DOUBLE = 1, CAREFUL = 2, STUBBORN = 3, PROUD = 4;
    private static final int READY = 0, WAITS = 1, EMPTY = 2, DONE = 3, FAILED = 4, STOPPED = 5;
    private static final int ADD = 0, BY = 1, ROW = 2, PUT = 3, GET = 4, TAKE = 5, SEND = 6, WAIT = 7;
    private static final int MARK = 8, GUARD = 9, BOX = 10, INTS = 11, OTHERS = 12, ASK = 13, CHECK = 14, COPY = 15;
    private static final int OF_INTS = 0, OF_TASKS = 1;
    private static final int FINE = 0, NULL = 1, INDEX = 2, STORE = 3, CAST = 4, SIZE = 5, ZERO = 6;
    private static final int CROWDED = 7, GUARD_WITHIN = 8, NO_LETTER = 9, TOO_LOW = 10;

    private final Task[] tasks;
    private final int[] doneOrder;
    private int taskCount;
    private int doneCount;
    private int workerCount;
    private int turnsDone;
    private int actsDone;
    private int lettersLost;
    private int guardsLeft;
    private int failuresSeen;

    public TaskTurns() {
        tasks = new Task[MOST_TASKS];
        doneOrder = new int[MOST_TASKS];
        workerCount = 1;
    }

    public int task(int sort, int rank) {
        if (sort < PLAIN || sort > PROUD || rank < 0 || rank > GREATEST_RANK) {
            return BAD;
        }
        if (taskCount >= tasks.length) {
            return FULL;
        }
        int number = taskCount;
        tasks[number] = new Task(number, sort, rank);
        taskCount++;
        return number;
    }

    public int act(int task, int kind, int a, int b) {
        Task t = find(task);
        if (t == null || kind < ADD || kind > COPY || (kind == ROW && a > LONGEST_ROW)) {
            return BAD;
        }
        if (t.state != READY || t.didActs) {
            return NO;
        }
        return t.acts.append(kind, a, b);
    }

    public int workers(int n) {
        if (n < 1 || n > MOST_WORKERS) {
            return BAD;
        }
        int before = workerCount;
        workerCount = n;
        return before;
    }

    public int turn(int n) {
        if (n < 1 || n > MOST_TURNS) {
            return BAD;
        }
        int before = actsDone;
        boolean idle = false;
        for (int i = 0; i < n && !idle; i++) {
            int beforeThisTurn = actsDone;
            doTurn();
            idle = actsDone == beforeThisTurn;
        }
        return actsDone - before;
    }

    public int letter(int task, int v) {
        Task t = find(task);
        if (t == null) {
            return BAD;
        }
        if (t.isOver()) {
            return NO;
        }
        if (t.letters.isFull()) {
            return FULL;
        }
        t.letters.append(v);
        return t.letters.size;
    }

    public int stop(int task) {
        Task t = find(task);
        if (t == null) {
            return BAD;
        }
        if (t.isOver()) {
            return NO;
        }
        t.state = STOPPED;
        return 1;
    }

    public int again(int task) {
        Task t = find(task);
        if (t == null) {
            return BAD;
        }
        if (t.state != FAILED && t.state != STOPPED) {
            return NO;
        }
        t.state = READY;
        t.goBack();
        return 1;
    }

    public int of(int task, int what) {
        Task t = find(task);
        return t == null ? BAD : t.tell(what);
    }

    public int at(int task, boolean box, int i) {
        Task t = find(task);
        if (t == null) {
            return BAD;
        }
        if (box) {
            return t.box.has(i) ? t.box.places[i] : BAD;
        }
        return t.row.has(i) ? t.row.ints[i] : BAD;
    }

    public int letterAt(int task, int i) {
        Task t = find(task);
        return t != null && t.letters.has(i) ? t.letters.values[i] : BAD;
    }

    public int count(int what) {
        return switch (what) {
            case 0 -> taskCount;
            case 1 -> turnsDone;
            case 2 -> actsDone;
            case 3 -> lettersLost;
            case 4 -> guardsLeft;
            case 5 -> failuresSeen;
            case 6 -> countGoingOn();
            default -> BAD;
        };
    }

    public int done(int k) {
        return k >= 0 && k < doneCount && k < doneOrder.length ? doneOrder[k] : NONE;
    }

    /** The task of that number, or null: places of tasks that are not made yet hold null. */
    private Task find(int number) {
        return number >= 0 && number < tasks.length ? tasks[number] : null;
    }

    private int countGoingOn() {
        int going = 0;
        for (int i = 0; i < tasks.length; i++) {
            Task t = tasks[i];
            if (t != null && !t.isOver()) {
                going++;
            }
        }
        return going;
    }

    private void doTurn() {
        turnsDone++;
        wakeTasks();
        for (int worker = 0; worker < workerCount; worker++) {
            Task t = findNextToWork();
            if (t != null) {
                giveTurn(t);
            }
        }
        ageTasks();
    }

    private void wakeTasks() {
        for (int i = 0; i < tasks.length; i++) {
            Task t = tasks[i];
            if (t != null) {
                t.wake();
            }
        }
    }

    private void ageTasks() {
        for (int i = 0; i < tasks.length; i++) {
            Task t = tasks[i];
            if (t != null && t.isReadyIn(turnsDone)) {
                t.age++;
            }
        }
    }

    private Task findNextToWork() {
        Task best = null;
        for (int i = 0; i < tasks.length; i++) {
            Task t = tasks[i];
            // Only a greater one takes the place, so that of like ones the least number stays.
            if (t != null && t.isReadyIn(turnsDone) && (best == null || t.rank + t.age > best.rank + best.age)) {
                best = t;
            }
        }
        return best;
    }

    private void giveTurn(Task t) {
        t.lastTurn = turnsDone;
        t.age = 0;
        t.waitLeft = 0;
        if (t.next < t.acts.size) {
            int failure = t.acts.kinds[t.next] == GUARD ? doGuard(t) : doAct(t, false);
            if (failure != FINE) {
                failuresSeen++;
                t.fail(failure);
            } else if (t.waitLeft > 0) {
                // Only here, not in the act itself: a wait within a guard counts when all are done.
                t.state = WAITS;
            }
        }
        if (t.next >= t.acts.size) {
            becomeDone(t);
        }
    }

    private void becomeDone(Task t) {
        t.state = DONE;
        if (doneCount < doneOrder.length) {
            doneOrder[doneCount] = t.number;
            doneCount++;
        }
    }

    /** Does the guard that is next and the acts it guards: the failure that ended them, or FINE. */
    private int doGuard(Task t) {
        int guarded = Math.min(t.acts.firsts[t.next], t.acts.size - t.next - 1);
        actsDone++;
        t.didActs = true;
        t.next++;
        int failure = FINE;
        for (int i = 0; i < guarded && failure == FINE; i++) {
            failure = doAct(t, true);
        }
        guardsLeft++;
        return failure;
    }

    /** Does the act that is next, which the caller has seen to be there: its failure, which leaves next, or FINE. */
    private int doAct(Task t, boolean guarded) {
        int a = t.acts.firsts[t.next];
        int b = t.acts.seconds[t.next];
        actsDone++;
        t.didActs = true;
        int failure = switch (t.acts.kinds[t.next]) {
            case ADD -> t.add(a);
            case BY -> t.divide(a);
            case ROW -> t.makeRow(a);
            case PUT -> t.put(a);
            case GET -> t.get(a);
            case TAKE -> t.takeLetter(guarded);
            case SEND -> send(t.sum + b, a);
            case WAIT -> t.waitFor(a);
            case MARK -> t.setMark();
            // A guard that stands alone is done by doGuard: one that comes here stands within another.
            case GUARD -> GUARD_WITHIN;
            case BOX -> t.makeBox(a);
            case INTS -> t.box.put(OF_INTS, a, t.sum);
            case OTHERS -> find(b) == null ? INDEX : t.box.put(OF_TASKS, a, b);
            case ASK -> ask(t, a);
            case CHECK -> t.sum < a ? TOO_LOW : FINE;
            case COPY -> t.copyToBox(a);
            default -> FINE;
        };
        if (failure == FINE && t.state != EMPTY) {
            t.next++;
        }
        return failure;
    }

    private int send(int value, int number) {
        Task receiver = find(number);
        if (receiver == null) {
            return INDEX;
        }
        if (receiver.isOver()) {
            lettersLost++;
            return FINE;
        }
        if (receiver.letters.isFull()) {
            return CROWDED;
        }
        receiver.letters.append(value);
        return FINE;
    }

    private int ask(Task t, int place) {
        int failure = t.box.lookAt(OF_TASKS, place);
        if (failure != FINE) {
            return failure;
        }
        Task other = find(t.box.places[place]);
        if (other == null) {
            return NULL;
        }
        t.sum += other.sum;
        return FINE;
    }

    /** One task. The methods named after acts answer the act's failure, or FINE. */
    private static final class Task {
        final int number;
        final int sort;
        final int rank;
        final Acts acts;
        final Letters letters;
        final Row row;
        final Box box;
        final Mark mark;
        int state;
        int age;
        int sum;
        int next;
        int waitLeft;
        /** The number of the turn in which it was last chosen; 0, which no turn has, at first. */
        int lastTurn;
        boolean didActs;
        int failures;
        int latestFailure;
        int failedAct;
        int backs;

        Task(int number, int sort, int rank) {
            this.number = number;
            this.sort = sort;
            this.rank = rank;
            acts = new Acts();
            letters = new Letters();
            row = new Row();
            box = new Box();
            mark = new Mark();
            state = READY;
            latestFailure = FINE;
            failedAct = NONE;
        }

        boolean isOver() {
            return state == DONE || state == FAILED || state == STOPPED;
        }

        boolean isReadyIn(int turnNumber) {
            return state == READY && lastTurn != turnNumber;
        }

        int tell(int what) {
            return switch (what) {
                case 0 -> state;
                case 1 -> sum;
                case 2 -> next;
                case 3 -> letters.size;
                case 4 -> age;
                case 5 -> failures;
                case 6 -> latestFailure;
                case 7 -> row.length;
                case 8 -> box.kind;
                case 9 -> backs;
                case 10 -> failedAct;
                default -> BAD;
            };
        }

        /** A turn begins: counts a wait down, and is ready if nothing holds it any more. */
        void wake() {
            if (state == WAITS && waitLeft > 0) {
                waitLeft--;
            } else if (state == WAITS || (state == EMPTY && letters.size > 0)) {
                state = READY;
            }
        }

        void fail(int failure) {
            failures++;
            latestFailure = failure;
            failedAct = next;
            if (sort < CAREFUL) {
                state = FAILED;
            } else if (backs < backsAllowed()) {
                backs++;
                goBack();
            } else {
                next++;
            }
        }

        int backsAllowed() {
            return sort == STUBBORN ? STUBBORN_BACKS : sort == PROUD ? PROUD_BACKS : 0;
        }

        void goBack() {
            sum = mark.sum;
            row.copyFrom(mark.row);
            next = mark.next;
        }

        int setMark() {
            mark.sum = sum;
            mark.row.copyFrom(row);
            mark.next = next + 1;
            return FINE;
        }

        int add(int a) {
            sum += sort == DOUBLE || sort == PROUD ? 2 * a : a;
            return FINE;
        }

        int divide(int a) {
            if (a == 0) {
                return ZERO;
            }
            sum /= a;
            return FINE;
        }

        int makeRow(int length) {
            if (length < 0) {
                return SIZE;
            }
            row.renew(length);
            return FINE;
        }

        int put(int i) {
            if (row.has(i)) {
                row.ints[i] = sum;
                return FINE;
            }
            return row.isNothing() ? NULL : INDEX;
        }

        int get(int i) {
            if (row.has(i)) {
                sum += row.ints[i];
                return FINE;
            }
            return row.isNothing() ? NULL : INDEX;
        }

        int takeLetter(boolean guarded) {
            if (letters.size > 0) {
                sum += letters.removeEldest();
                return FINE;
            }
            if (guarded) {
                return NO_LETTER;
            }
            state = EMPTY;
            return FINE;
        }

        int waitFor(int turns) {
            if (turns > 0) {
                waitLeft = turns;
            }
            return FINE;
        }

        int makeBox(int kind) {
            box.renew(kind);
            return FINE;
        }

        int copyToBox(int many) {
            if (row.isNothing() || box.isNothing()) {
                return NULL;
            }
            if (box.kind != OF_INTS) {
                return STORE;
            }
            if (many < 0 || many > row.length || many > BOX_PLACES) {
                return INDEX;
            }
            for (int i = 0; i < many; i++) {
                box.places[i] = row.ints[i];
            }
            return FINE;
        }
    }

    /** The acts of a task: the kind of each, and its a and b. */
    private static final class Acts {
        final int[] kinds;
        final int[] firsts;
        final int[] seconds;
        int size;

        Acts() {
            kinds = new int[MOST_ACTS];
            firsts = new int[MOST_ACTS];
            seconds = new int[MOST_ACTS];
        }

        int append(int kind, int a, int b) {
            if (size >= MOST_ACTS) {
                return FULL;
            }
            int number = size;
            kinds[number] = kind;
            firsts[number] = a;
            seconds[number] = b;
            size++;
            return number;
        }
    }

    /** Letters that wait for a task, the eldest first. */
    private static final class Letters {
        final int[] values;
        int size;

        Letters() {
            values = new int[MOST_LETTERS];
        }

        boolean isFull() {
            return size >= MOST_LETTERS;
        }

        boolean has(int i) {
            return i >= 0 && i < size;
        }

        void append(int value) {
            if (size < MOST_LETTERS) {
                values[size] = value;
                size++;
            }
        }

        /** The eldest letter, which goes; 0 if there is none. */
        int removeEldest() {
            if (size <= 0) {
                return 0;
            }
            int eldest = values[0];
            size--;
            for (int i = 0; i < size; i++) {
                values[i] = values[i + 1];
            }
            return eldest;
        }
    }

    /** A row of ints, or nothing. It has room for the longest one, so that no act makes an array. */
    private static final class Row {
        final int[] ints;
        /** NONE, which is below every index, while the row is nothing. */
        int length;

        Row() {
            ints = new int[LONGEST_ROW];
            length = NONE;
        }

        boolean isNothing() {
            return length == NONE;
        }

        boolean has(int i) {
            return i >= 0 && i < length && i < LONGEST_ROW;
        }

        void renew(int newLength) {
            for (int i = 0; i < LONGEST_ROW; i++) {
                ints[i] = 0;
            }
            length = newLength;
        }

        void copyFrom(Row other) {
            for (int i = 0; i < LONGEST_ROW; i++) {
                ints[i] = other.ints[i];
            }
            length = other.length;
        }
    }

    /** A box: a row of ints, a row of tasks (by their numbers, NONE where none is), or nothing. */
    private static final class Box {
        final int[] places;
        int kind;

        Box() {
            places = new int[BOX_PLACES];
            kind = NONE;
        }

        boolean isNothing() {
            return kind == NONE;
        }

        boolean has(int place) {
            return kind != NONE && place >= 0 && place < BOX_PLACES;
        }

        void renew(int wanted) {
            kind = wanted == OF_INTS || wanted == OF_TASKS ? wanted : NONE;
            for (int i = 0; i < BOX_PLACES; i++) {
                places[i] = kind == OF_TASKS ? NONE : 0;
            }
        }

        /** The failure of using a place of the box as one of that kind; FINE only if the place is there. */
        int lookAt(int wantedKind, int place) {
            // Nothing passes for a box of either kind, as null passes every cast.
            if (kind != wantedKind && kind != NONE) {
                return CAST;
            }
            if (kind == NONE) {
                return NULL;
            }
            return place >= 0 && place < BOX_PLACES ? FINE : INDEX;
        }

        int put(int wantedKind, int place, int value) {
            int failure = lookAt(wantedKind, place);
            if (failure == FINE) {
                places[place] = value;
            }
            return failure;
        }
    }

    /** What a task goes back to. A new one is what stands in for a mark that was never set. */
    private static final class Mark {
        final Row row;
        int sum;
        int next;

        Mark() {
            row = new Row();
        }
    }
}
