// For each promise: ordinary calls, the edges that the document names, and wrong inputs.
public final class TaskTurnsPromises {
    private static final int BAD = TaskTurns.BAD, NO = TaskTurns.NO, FULL = TaskTurns.FULL, NONE = TaskTurns.NONE;
    private static final int PLAIN = 0, DOUBLE = 1, CAREFUL = 2, STUBBORN = 3, PROUD = 4;
    private static final int READY = 0, WAITS = 1, EMPTY = 2, DONE = 3, FAILED = 4, STOPPED = 5;
    private static final int ADD = 0, BY = 1, ROW = 2, PUT = 3, GET = 4, TAKE = 5, SEND = 6, WAIT = 7;
    private static final int MARK = 8, GUARD = 9, BOX = 10, INTS = 11, OTHERS = 12, ASK = 13, CHECK = 14, COPY = 15;
    private static final int STATE = 0, SUM = 1, NEXT = 2, LETTERS = 3, AGE = 4, FAILURES = 5, LATEST = 6;
    private static final int ROW_LENGTH = 7, BOX_KIND = 8, BACKS = 9, FAILED_ACT = 10;
    private static final int MIN = Integer.MIN_VALUE, MAX = Integer.MAX_VALUE;

    private static int wrong = 0;
    private static int asked = 0;

    private static void due(String call, int got, int want) {
        asked++;
        if (got != want) {
            wrong++;
            System.out.println(call + " answered " + got + ", due is " + want);
        }
    }

    /** Asks of a task, in pairs: what, and the answer that is due. */
    private static void dueOf(String about, TaskTurns x, int task, int... pairs) {
        for (int i = 0; i + 1 < pairs.length; i += 2) {
            due(about + ": of(" + task + ", " + pairs[i] + ")", x.of(task, pairs[i]), pairs[i + 1]);
        }
    }

    /** A new task with acts, each told as kind, a, b. */
    private static int add(TaskTurns x, int sort, int rank, int... acts) {
        int task = x.task(sort, rank);
        for (int i = 0; i + 2 < acts.length; i += 3) {
            due("act of kind " + acts[i], x.act(task, acts[i], acts[i + 1], acts[i + 2]), i / 3);
        }
        return task;
    }

    /** A new object whose task 0 has these acts and has done all it can. */
    private static TaskTurns ran(int sort, int... acts) {
        TaskTurns x = new TaskTurns();
        add(x, sort, 0, acts);
        x.turn(50);
        return x;
    }

    private static void dueFailure(String about, int failure, int act, int... acts) {
        TaskTurns x = ran(PLAIN, acts);
        dueOf(about, x, 0, STATE, FAILED, LATEST, failure, FAILED_ACT, act, NEXT, act, FAILURES, 1);
        due(about + ": count(5)", x.count(5), 1);
    }

    private static void dueSum(String about, int sort, int sum, int... acts) {
        TaskTurns x = ran(sort, acts);
        dueOf(about, x, 0, STATE, DONE, SUM, sum, NEXT, acts.length / 3);
    }

    public static void main(String[] args) {
        newObject();
        tasks();
        actRefusals();
        actsOverTheSum();
        actsOverTheRow();
        actsOverTheBox();
        copies();
        sends();
        takes();
        waits();
        guards();
        guardedWaits();
        sorts();
        marks();
        workers();
        turns();
        ranksAndAges();
        ends();
        letters();
        stops();
        agains();
        ofWrong();
        places();
        letterPlaces();
        counts();
        doneOrder();
        System.out.println(asked + " answers looked at, " + wrong + " not as due");
        if (asked == 0 || wrong != 0) System.exit(1);
    }

    private static void newObject() {
        TaskTurns x = new TaskTurns();
        for (int what = 0; what <= 6; what++) due("new: count(" + what + ")", x.count(what), 0);
        due("new: done(0)", x.done(0), NONE);
        due("new: of(0, 0)", x.of(0, STATE), BAD);
        due("new: workers(1)", x.workers(1), 1);
        due("new: turn(50)", x.turn(50), 0);
        due("new: one idle turn", x.count(1), 1);
    }

    private static void tasks() {
        TaskTurns x = new TaskTurns();
        int[][] bad = {{-1, 0}, {5, 0}, {0, -1}, {0, 10}, {MIN, 0}, {MAX, 0}, {0, MIN}, {0, MAX}};
        for (int[] call : bad) due("task(" + call[0] + ", " + call[1] + ")", x.task(call[0], call[1]), BAD);
        due("no task made", x.count(0), 0);
        for (int i = 0; i < 12; i++) due("task " + i, x.task(i % 5, i % 10), i);
        dueOf("new task", x, 11, STATE, READY, SUM, 0, NEXT, 0, LETTERS, 0, AGE, 0, FAILURES, 0, LATEST, 0,
            ROW_LENGTH, NONE, BOX_KIND, NONE, BACKS, 0, FAILED_ACT, NONE);
        due("a thirteenth task", x.task(0, 0), FULL);
        due("BAD before FULL", x.task(5, 0), BAD);
        due("twelve tasks", x.count(0), 12);
        due("no task 12", x.of(12, STATE), BAD);
    }

    private static void actRefusals() {
        TaskTurns x = new TaskTurns();
        due("act without a task", x.act(0, ADD, 0, 0), BAD);
        x.task(PLAIN, 0);
        int[] noTask = {-1, 1, 12, MIN, MAX};
        for (int task : noTask) due("act of task " + task, x.act(task, ADD, 0, 0), BAD);
        int[] noKind = {-1, 16, MIN, MAX};
        for (int kind : noKind) due("act of kind " + kind, x.act(0, kind, 0, 0), BAD);
        due("row of 41", x.act(0, ROW, 41, 0), BAD);
        due("row of the most", x.act(0, ROW, MAX, 0), BAD);
        due("row of 40", x.act(0, ROW, 40, 0), 0);
        due("row below 0 is an act", x.act(0, ROW, -1, 0), 1);
        due("41 is fine for others", x.act(0, ADD, 41, 0), 2);
        for (int i = 3; i < 16; i++) due("act " + i, x.act(0, ADD, 1, 0), i);
        due("a seventeenth act", x.act(0, ADD, 1, 0), FULL);
        due("BAD before FULL", x.act(0, 16, 1, 0), BAD);
        x.turn(1);
        due("NO before FULL: it did acts", x.act(0, ADD, 1, 0), NO);
        due("BAD before NO", x.act(0, ROW, 41, 0), BAD);
        x.turn(1);
        due("it is failed", x.act(0, ADD, 1, 0), NO);

        TaskTurns y = new TaskTurns();
        add(y, PLAIN, 0, ADD, 1, 0);
        y.stop(0);
        due("it is stopped", y.act(0, ADD, 1, 0), NO);
        y.again(0);
        due("ready again without an act done", y.act(0, TAKE, 0, 0), 1);
        y.turn(2);
        due("it is empty", y.act(0, ADD, 1, 0), NO);
        y.stop(0);
        y.again(0);
        dueOf("ready again at 0", y, 0, STATE, READY, NEXT, 0);
        due("ready again, but it did acts", y.act(0, ADD, 1, 0), NO);
        y.task(PLAIN, 0);
        y.turn(1);
        y.turn(1);
        dueOf("done without acts", y, 1, STATE, DONE);
        due("it is done", y.act(1, ADD, 1, 0), NO);

        TaskTurns z = new TaskTurns();
        add(z, PLAIN, 9, ADD, 1, 0);
        add(z, PLAIN, 0, ADD, 1, 0);
        z.turn(1);
        due("others' turns do not count", z.act(1, ADD, 1, 0), 1);
        add(z, PLAIN, 9, GUARD, 0, 0, ADD, 1, 0);
        z.turn(1);
        due("a guard is an act done", z.act(2, ADD, 1, 0), NO);
    }

    private static void actsOverTheSum() {
        dueSum("add", PLAIN, 7, ADD, 5, 0, ADD, 2, 9);
        dueSum("add goes round", PLAIN, MIN, ADD, MAX, 0, ADD, 1, 0);
        dueSum("add twice", DOUBLE, 10, ADD, 5, 0);
        dueSum("add twice goes round", DOUBLE, -2, ADD, MAX, 0);
        dueSum("add twice", PROUD, 10, ADD, 5, 0);
        dueSum("add once", CAREFUL, 5, ADD, 5, 0);
        dueSum("add once", STUBBORN, 5, ADD, 5, 0);
        dueSum("by, toward 0", PLAIN, -3, ADD, -7, 0, BY, 2, 0);
        dueSum("by, below 0", PLAIN, -3, ADD, 7, 0, BY, -2, 0);
        dueSum("by is not doubled", DOUBLE, 5, ADD, 5, 0, BY, 2, 0);
        dueSum("by goes round", PLAIN, MIN, ADD, MIN, 0, BY, -1, 0);
        dueFailure("by 0", 6, 1, ADD, 1, 0, BY, 0, 0);
        dueFailure("0 by 0", 6, 0, BY, 0, 0);
        dueSum("check of its own", PLAIN, 4, ADD, 4, 0, CHECK, 4, 0);
        dueFailure("check", 10, 1, ADD, 4, 0, CHECK, 5, 0);
        dueSum("check of the least", PLAIN, MIN, ADD, MIN, 0, CHECK, MIN, 0);
        dueFailure("check far above", 10, 1, ADD, MIN, 0, CHECK, MAX, 0);
    }

    private static void actsOverTheRow() {
        TaskTurns x = ran(PLAIN, ROW, 3, 0, ADD, 6, 0, PUT, 2, 0, GET, 2, 0, PUT, 0, 0);
        dueOf("row", x, 0, STATE, DONE, SUM, 12, ROW_LENGTH, 3);
        due("row 0", x.at(0, false, 0), 12);
        due("row 1", x.at(0, false, 1), 0);
        due("row 2", x.at(0, false, 2), 6);
        TaskTurns y = ran(PLAIN, ADD, 6, 0, ROW, 2, 0, PUT, 0, 0, PUT, 1, 0, ROW, 3, 0);
        for (int i = 0; i < 3; i++) due("a new row is all 0", y.at(0, false, i), 0);
        dueOf("a new row", y, 0, ROW_LENGTH, 3);
        dueSum("get is not doubled, and goes round", DOUBLE, -4, ADD, MAX, 0, ROW, 1, 0, PUT, 0, 0, GET, 0, 0);
        dueFailure("put without a row", 1, 0, PUT, 0, 0);
        dueFailure("get without a row", 1, 0, GET, -1, 0);
        dueFailure("put below", 2, 1, ROW, 2, 0, PUT, -1, 0);
        dueFailure("put above", 2, 1, ROW, 2, 0, PUT, 2, 0);
        dueFailure("put far above", 2, 1, ROW, 40, 0, PUT, MAX, 0);
        dueFailure("get below", 2, 1, ROW, 2, 0, GET, MIN, 0);
        dueFailure("get above", 2, 1, ROW, 40, 0, GET, 40, 0);
        dueFailure("get of a row of 0", 2, 1, ROW, 0, 0, GET, 0, 0);
        dueFailure("row below 0", 5, 0, ROW, -1, 0);
        dueFailure("row far below 0", 5, 0, ROW, MIN, 0);
        TaskTurns z = ran(PLAIN, ROW, 2, 0, ROW, -4, 0);
        dueOf("a row that fails leaves the one before", z, 0, ROW_LENGTH, 2);
        TaskTurns last = ran(PLAIN, ROW, 40, 0, ADD, 3, 0, PUT, 39, 0);
        due("the last int of the longest row", last.at(0, false, 39), 3);
    }

    private static void actsOverTheBox() {
        TaskTurns x = ran(PLAIN, BOX, 0, 0, ADD, 8, 0, INTS, 2, 0);
        dueOf("int box", x, 0, STATE, DONE, BOX_KIND, 0);
        due("int box 0", x.at(0, true, 0), 0);
        due("int box 2", x.at(0, true, 2), 8);
        TaskTurns y = ran(PLAIN, ADD, 4, 0, BOX, 1, 0, OTHERS, 1, 0, ASK, 1, 0);
        dueOf("task box", y, 0, STATE, DONE, BOX_KIND, 1, SUM, 8);
        due("task box 0", y.at(0, true, 0), NONE);
        due("task box 1", y.at(0, true, 1), 0);
        dueOf("box 2", ran(PLAIN, BOX, 0, 0, BOX, 2, 0), 0, STATE, DONE, BOX_KIND, NONE);
        dueOf("box below 0", ran(PLAIN, BOX, 1, 0, BOX, NONE, 0), 0, STATE, DONE, BOX_KIND, NONE);
        due("a new box is all 0", ran(PLAIN, ADD, 4, 0, BOX, 0, 0, INTS, 1, 0, BOX, 0, 0).at(0, true, 1), 0);
        due("a new box holds none", ran(PLAIN, BOX, 1, 0, OTHERS, 1, 0, BOX, 1, 0).at(0, true, 1), NONE);
        dueFailure("ints of nothing", 1, 0, INTS, 9, 0);
        dueFailure("others of nothing", 1, 0, OTHERS, 9, 0);
        dueFailure("ask of nothing", 1, 0, ASK, 9, 0);
        dueFailure("ints of tasks", 4, 1, BOX, 1, 0, INTS, 9, 0);
        dueFailure("others of ints", 4, 1, BOX, 0, 0, OTHERS, 9, 0);
        dueFailure("ask of ints", 4, 1, BOX, 0, 0, ASK, 9, 0);
        dueFailure("ints above", 2, 1, BOX, 0, 0, INTS, 3, 0);
        dueFailure("ints below", 2, 1, BOX, 0, 0, INTS, -1, 0);
        dueFailure("others above", 2, 1, BOX, 1, 0, OTHERS, 3, 0);
        dueFailure("others below", 2, 1, BOX, 1, 0, OTHERS, MIN, 0);
        dueFailure("others of no such task, asked first", 2, 0, OTHERS, 0, 1);
        dueFailure("others of no such task, ahead of cast", 2, 1, BOX, 0, 0, OTHERS, 0, -1);
        dueFailure("ask above", 2, 1, BOX, 1, 0, ASK, 3, 0);
        dueFailure("ask below", 2, 1, BOX, 1, 0, ASK, -1, 0);
        dueFailure("ask where none is", 1, 1, BOX, 1, 0, ASK, 2, 0);

        TaskTurns z = new TaskTurns();
        add(z, PLAIN, 0, ADD, 1, 0, BOX, 1, 0, OTHERS, 0, 1, ASK, 0, 0);
        add(z, PLAIN, 9, ADD, MAX, 0);
        z.turn(50);
        dueOf("the sum of another, going round", z, 0, STATE, DONE, SUM, MIN);
    }

    private static void copies() {
        TaskTurns x = ran(PLAIN, BOX, 0, 0, ADD, 5, 0, INTS, 2, 0, ROW, 4, 0, PUT, 0, 0, ADD, 1, 0, PUT, 1, 0,
            PUT, 2, 0, COPY, 2, 0);
        dueOf("copy", x, 0, STATE, DONE);
        due("copied 0", x.at(0, true, 0), 5);
        due("copied 1", x.at(0, true, 1), 6);
        due("not copied 2", x.at(0, true, 2), 5);
        due("the row stays", x.at(0, false, 2), 6);
        dueOf("copy of 3", ran(PLAIN, BOX, 0, 0, ROW, 3, 0, COPY, 3, 0), 0, STATE, DONE);
        dueOf("copy of 0", ran(PLAIN, BOX, 0, 0, ROW, 0, 0, COPY, 0, 0), 0, STATE, DONE);
        dueFailure("copy without both", 1, 0, COPY, -1, 0);
        dueFailure("copy without a row", 1, 1, BOX, 1, 0, COPY, 0, 0);
        dueFailure("copy without a box", 1, 1, ROW, 3, 0, COPY, 0, 0);
        dueFailure("copy into tasks, ahead of index", 3, 2, BOX, 1, 0, ROW, 3, 0, COPY, -1, 0);
        dueFailure("copy of 0 into tasks", 3, 2, BOX, 1, 0, ROW, 3, 0, COPY, 0, 0);
        dueFailure("copy of more than the box", 2, 2, BOX, 0, 0, ROW, 9, 0, COPY, 4, 0);
        dueFailure("copy of more than the row", 2, 2, BOX, 0, 0, ROW, 2, 0, COPY, 3, 0);
        dueFailure("copy of less than none", 2, 2, BOX, 0, 0, ROW, 3, 0, COPY, -1, 0);
        dueFailure("copy of the most", 2, 2, BOX, 0, 0, ROW, 3, 0, COPY, MAX, 0);
        TaskTurns y = ran(PLAIN, BOX, 0, 0, ROW, 2, 0, ADD, 5, 0, PUT, 0, 0, COPY, 3, 0);
        due("a copy that fails changes nothing", y.at(0, true, 0), 0);
    }

    private static void sends() {
        TaskTurns x = new TaskTurns();
        add(x, PLAIN, 9, ADD, MAX, 0, SEND, 1, 1, SEND, 1, -1, SEND, 0, 0);
        add(x, PLAIN, 0, TAKE, 0, 0);
        due("four sends", x.turn(4), 4);
        dueOf("sender", x, 0, STATE, DONE, SUM, MAX, LETTERS, 1);
        due("sum and b, going round", x.letterAt(1, 0), MIN);
        due("the second letter", x.letterAt(1, 1), MAX - 1);
        due("a letter to itself", x.letterAt(0, 0), MAX);
        dueFailure("send to no task", 2, 0, SEND, 1, 0);
        dueFailure("send below", 2, 0, SEND, -1, 0);

        TaskTurns y = new TaskTurns();
        add(y, CAREFUL, 5, SEND, 1, 0, SEND, 2, 0, SEND, 3, 0);
        add(y, PLAIN, 9);
        add(y, PLAIN, 9, BY, 0, 0);
        add(y, PLAIN, 0);
        y.stop(3);
        y.workers(4);
        y.turn(1);
        dueOf("done by now", y, 1, STATE, DONE);
        dueOf("failed by now", y, 2, STATE, FAILED);
        y.turn(50);
        due("lost to done, failed, stopped", y.count(3), 3);
        dueOf("lost", y, 3, LETTERS, 0);

        TaskTurns z = new TaskTurns();
        add(z, PLAIN, 9, SEND, 1, 0);
        add(z, PLAIN, 0, TAKE, 0, 0);
        for (int i = 0; i < 6; i++) z.letter(1, i);
        z.turn(1);
        dueOf("the box of letters is full", z, 0, STATE, FAILED, LATEST, 7);
        dueOf("six letters stay", z, 1, LETTERS, 6);
        due("not lost", z.count(3), 0);
    }

    private static void takes() {
        TaskTurns x = new TaskTurns();
        add(x, DOUBLE, 0, TAKE, 0, 0, TAKE, 0, 0, ADD, 1, 0);
        x.letter(0, MAX);
        x.letter(0, 2);
        due("two letters", x.turn(2), 2);
        dueOf("taken, going round", x, 0, SUM, MIN + 1, LETTERS, 0, NEXT, 2);

        TaskTurns y = new TaskTurns();
        add(y, PLAIN, 9, TAKE, 0, 0, ADD, 1, 0);
        add(y, PLAIN, 0, ADD, 1, 0, ADD, 1, 0, SEND, 0, 5);
        due("a take without a letter is an act", y.turn(1), 1);
        dueOf("empty", y, 0, STATE, EMPTY, NEXT, 0, SUM, 0, AGE, 0, FAILURES, 0);
        due("one goes on", y.turn(3), 3);
        dueOf("a letter came, its turn did not", y, 0, STATE, EMPTY, LETTERS, 1, AGE, 0);
        due("it takes", y.turn(1), 1);
        dueOf("taken", y, 0, STATE, READY, SUM, 7, NEXT, 1);
        y.turn(50);
        dueOf("done", y, 0, STATE, DONE, SUM, 8);

        TaskTurns z = new TaskTurns();
        add(z, PLAIN, 9, TAKE, 0, 0);
        add(z, PLAIN, 0, SEND, 0, 5);
        z.workers(4);
        due("empty, then sent to in the same turn", z.turn(1), 2);
        dueOf("no second turn", z, 0, STATE, EMPTY, LETTERS, 1);
    }

    private static void waits() {
        TaskTurns x = new TaskTurns();
        add(x, PLAIN, 0, WAIT, 2, 0, ADD, 1, 0);
        due("the wait", x.turn(1), 1);
        dueOf("waits", x, 0, STATE, WAITS, NEXT, 1, AGE, 0);
        due("first turn without", x.turn(1), 0);
        due("second turn without", x.turn(1), 0);
        dueOf("waits till a turn begins", x, 0, STATE, WAITS, AGE, 0);
        due("its time is over", x.turn(1), 1);
        dueOf("done", x, 0, STATE, DONE, SUM, 1);

        TaskTurns y = new TaskTurns();
        add(y, PLAIN, 0, WAIT, 0, 0, WAIT, MIN, 0, ADD, 1, 0);
        due("waits of none", y.turn(3), 3);
        dueOf("done at once", y, 0, STATE, DONE, SUM, 1);

        TaskTurns z = new TaskTurns();
        add(z, PLAIN, 0, WAIT, 1, 0);
        z.turn(1);
        dueOf("a last wait is the end", z, 0, STATE, DONE);

        TaskTurns most = new TaskTurns();
        add(most, PLAIN, 0, WAIT, MAX, 0, ADD, 1, 0);
        most.turn(1);
        for (int i = 0; i < 20; i++) due("waits on", most.turn(50), 0);
        dueOf("waits", most, 0, STATE, WAITS);
        most.stop(0);
        most.again(0);
        dueOf("stopped and ready again", most, 0, STATE, READY, NEXT, 0);
        due("the wait anew", most.turn(1), 1);
    }

    private static void guards() {
        TaskTurns x = new TaskTurns();
        add(x, PLAIN, 0, GUARD, 2, 0, ADD, 1, 0, ADD, 2, 0, ADD, 4, 0);
        due("a guard and two", x.turn(1), 3);
        dueOf("in one turn", x, 0, STATE, READY, SUM, 3, NEXT, 3);
        due("left", x.count(4), 1);
        due("acts", x.count(2), 3);
        due("the one behind", x.turn(1), 1);
        dueOf("done", x, 0, STATE, DONE, SUM, 7);
        due("left once", x.count(4), 1);

        int[] none = {0, -1, MIN};
        for (int a : none) {
            TaskTurns y = new TaskTurns();
            add(y, PLAIN, 0, GUARD, a, 0, ADD, 1, 0);
            due("a guard of none", y.turn(1), 1);
            dueOf("the next is not guarded", y, 0, NEXT, 1, SUM, 0);
            due("left all the same", y.count(4), 1);
        }
        int[] many = {2, 3, 99, MAX};
        for (int a : many) {
            TaskTurns y = new TaskTurns();
            add(y, PLAIN, 0, GUARD, a, 0, ADD, 1, 0, ADD, 1, 0);
            due("a guard up to the end", y.turn(1), 3);
            dueOf("the end", y, 0, STATE, DONE, NEXT, 3, SUM, 2);
        }
        TaskTurns later = new TaskTurns();
        add(later, PLAIN, 0, ADD, 1, 0, ADD, 1, 0, GUARD, 5, 0, ADD, 1, 0);
        due("a later guard up to the end", later.turn(3), 4);
        dueOf("the end", later, 0, STATE, DONE, NEXT, 4, SUM, 3);
        TaskTurns last = ran(PLAIN, GUARD, 1, 0);
        dueOf("a guard of nothing behind", last, 0, STATE, DONE);
        due("left", last.count(4), 1);

        TaskTurns within = ran(PLAIN, GUARD, 3, 0, ADD, 1, 0, GUARD, 1, 0, ADD, 1, 0);
        dueOf("a guard within", within, 0, STATE, FAILED, LATEST, 8, FAILED_ACT, 2, NEXT, 2, SUM, 1);
        due("left once, by the failure", within.count(4), 1);
        due("three acts", within.count(2), 3);
        TaskTurns careful = new TaskTurns();
        add(careful, CAREFUL, 0, GUARD, 3, 0, BY, 0, 0, ADD, 1, 0, ADD, 1, 0);
        due("left by a failure", careful.turn(1), 2);
        dueOf("it goes on behind the failed one", careful, 0, STATE, READY, NEXT, 2, LATEST, 6, FAILED_ACT, 1);
        due("one by one again", careful.turn(1), 1);
        dueFailure("take without a letter in a guard", 9, 1, GUARD, 1, 0, TAKE, 0, 0);
        TaskTurns takes = new TaskTurns();
        add(takes, PLAIN, 0, GUARD, 2, 0, SEND, 0, 4, TAKE, 0, 0);
        due("a letter to itself, taken in one turn", takes.turn(1), 3);
        dueOf("taken", takes, 0, STATE, DONE, SUM, 4);
        TaskTurns back = new TaskTurns();
        add(back, STUBBORN, 0, GUARD, 3, 0, ADD, 1, 0, MARK, 0, 0, BY, 0, 0);
        due("to the mark", back.turn(1), 4);
        dueOf("back within", back, 0, STATE, READY, NEXT, 3, SUM, 1, BACKS, 1);
        due("alone, not guarded any more", back.turn(1), 1);
        due("left once", back.count(4), 1);
    }

    private static void guardedWaits() {
        TaskTurns x = new TaskTurns();
        add(x, PLAIN, 0, GUARD, 4, 0, WAIT, 9, 0, WAIT, 1, 0, WAIT, 0, 0, ADD, 1, 0, ADD, 1, 0);
        due("all in one turn", x.turn(1), 5);
        dueOf("waits behind them", x, 0, STATE, WAITS, SUM, 1, NEXT, 5);
        due("the last that does something", x.turn(1), 0);
        due("its time is over", x.turn(1), 1);

        TaskTurns y = new TaskTurns();
        add(y, CAREFUL, 0, GUARD, 2, 0, WAIT, 9, 0, BY, 0, 0, ADD, 1, 0, ADD, 1, 0);
        due("a wait, then a failure", y.turn(1), 3);
        dueOf("not all were done", y, 0, STATE, READY, NEXT, 3);
        due("it goes on", y.turn(1), 1);
        dueOf("that wait is forgotten", y, 0, STATE, READY, NEXT, 4);
    }

    private static void sorts() {
        int[] failing = {ADD, 3, 0, BY, 0, 0, ADD, 1, 0};
        dueOf("plain", ran(PLAIN, failing), 0, STATE, FAILED, SUM, 3, NEXT, 1, FAILURES, 1, BACKS, 0);
        dueOf("double", ran(DOUBLE, failing), 0, STATE, FAILED, SUM, 6, NEXT, 1, FAILURES, 1, BACKS, 0);
        dueOf("careful", ran(CAREFUL, failing), 0, STATE, DONE, SUM, 4, NEXT, 3, FAILURES, 1, BACKS, 0, FAILED_ACT, 1);
        dueOf("stubborn", ran(STUBBORN, failing), 0, STATE, DONE, SUM, 4, NEXT, 3, FAILURES, 4, BACKS, 3, FAILED_ACT, 1);
        dueOf("proud", ran(PROUD, failing), 0, STATE, DONE, SUM, 8, NEXT, 3, FAILURES, 6, BACKS, 5, FAILED_ACT, 1);
        dueOf("careful at its end", ran(CAREFUL, BY, 0, 0), 0, STATE, DONE, NEXT, 1, FAILURES, 1);
        TaskTurns x = new TaskTurns();
        add(x, STUBBORN, 0, failing);
        x.turn(2);
        dueOf("back without a mark", x, 0, STATE, READY, SUM, 0, NEXT, 0, BACKS, 1, ROW_LENGTH, NONE);
        x.stop(0);
        x.again(0);
        dueOf("again is not by itself", x, 0, BACKS, 1, FAILURES, 1, LATEST, 6);
        x.turn(50);
        dueOf("three times in all", x, 0, STATE, DONE, BACKS, 3, FAILURES, 4);
    }

    private static void marks() {
        TaskTurns x = new TaskTurns();
        add(x, STUBBORN, 0, ADD, 2, 0, ROW, 3, 0, PUT, 0, 0, MARK, 0, 0, ADD, 5, 0, PUT, 0, 0, BOX, 0, 0,
            SEND, 0, 0, BY, 0, 0, ADD, 1, 0);
        x.turn(9);
        dueOf("back at the mark", x, 0, SUM, 2, NEXT, 4, ROW_LENGTH, 3, BOX_KIND, 0, LETTERS, 1, BACKS, 1);
        due("the row of the mark", x.at(0, false, 0), 2);
        x.turn(5);
        dueOf("back again", x, 0, SUM, 2, NEXT, 4, LETTERS, 2, BACKS, 2);
        due("the row of the mark is a copy each time", x.at(0, false, 0), 2);

        TaskTurns y = new TaskTurns();
        add(y, STUBBORN, 0, MARK, 0, 0, ROW, 3, 0, BY, 0, 0);
        y.turn(3);
        dueOf("a mark of nothing", y, 0, ROW_LENGTH, NONE, NEXT, 1);

        TaskTurns z = new TaskTurns();
        add(z, STUBBORN, 0, ROW, 3, 0, ADD, 1, 0, MARK, 0, 0, ROW, 1, 0, ADD, 1, 0, MARK, 0, 0, ROW, 7, 0, BY, 0, 0);
        z.turn(8);
        dueOf("the latest mark", z, 0, SUM, 2, NEXT, 6, ROW_LENGTH, 1);
    }

    private static void workers() {
        TaskTurns x = new TaskTurns();
        int[] bad = {0, 5, -1, MIN, MAX};
        for (int n : bad) due("workers(" + n + ")", x.workers(n), BAD);
        due("still one", x.workers(4), 1);
        due("four", x.workers(3), 4);
        due("three", x.workers(3), 3);
        for (int i = 0; i < 5; i++) add(x, PLAIN, 0, ADD, 1, 0, ADD, 1, 0);
        due("three of five work", x.turn(1), 3);
        x.workers(4);
        due("four of five work", x.turn(1), 4);
        dueOf("the two that waited go first", x, 3, NEXT, 1);
        dueOf("the two that waited go first", x, 4, NEXT, 1);
        dueOf("then the least number", x, 2, AGE, 1, NEXT, 1);
        TaskTurns y = new TaskTurns();
        y.workers(4);
        add(y, PLAIN, 0, ADD, 1, 0, ADD, 1, 0);
        due("none works twice in a turn", y.turn(1), 1);
    }

    private static void turns() {
        TaskTurns x = new TaskTurns();
        int[] bad = {0, 51, -1, MIN, MAX};
        for (int n : bad) due("turn(" + n + ")", x.turn(n), BAD);
        due("no turn done", x.count(1), 0);
        add(x, PLAIN, 0, ADD, 1, 0, ADD, 1, 0, ADD, 1, 0);
        due("two turns", x.turn(2), 2);
        due("count(1)", x.count(1), 2);
        due("up to an idle one", x.turn(50), 1);
        due("that one counts", x.count(1), 4);
        TaskTurns y = new TaskTurns();
        add(y, PLAIN, 9);
        add(y, PLAIN, 0, ADD, 1, 0);
        due("a turn in which one is done without an act", y.turn(50), 0);
        due("is idle", y.count(1), 1);
        dueOf("it had its turn", y, 0, STATE, DONE, AGE, 0);
        dueOf("the other had none", y, 1, STATE, READY, AGE, 1);
        due("goes on", y.turn(1), 1);
        TaskTurns z = new TaskTurns();
        z.workers(4);
        for (int i = 0; i < 12; i++) {
            add(z, PLAIN, 0);
            for (int k = 0; k < 16; k++) z.act(i, ADD, 1, 0);
        }
        due("forty-eight turns of four acts, and one idle", z.turn(50), 192);
        due("forty-nine turns", z.count(1), 49);
    }

    private static void ranksAndAges() {
        TaskTurns x = new TaskTurns();
        add(x, PLAIN, 1, ADD, 1, 0, ADD, 1, 0);
        add(x, PLAIN, 3, ADD, 1, 0, ADD, 1, 0, ADD, 1, 0, ADD, 1, 0, ADD, 1, 0);
        x.turn(2);
        dueOf("the greater rank", x, 1, NEXT, 2, AGE, 0);
        dueOf("the lesser rank waits", x, 0, NEXT, 0, AGE, 2);
        x.turn(1);
        dueOf("like ones: the least number", x, 0, NEXT, 1, AGE, 0);
        dueOf("the other ages", x, 1, NEXT, 2, AGE, 1);
        x.turn(1);
        dueOf("rank and age together", x, 1, NEXT, 3, AGE, 0);
        TaskTurns y = new TaskTurns();
        add(y, PLAIN, 9, ADD, 1, 0, ADD, 1, 0, ADD, 1, 0);
        add(y, PLAIN, 0, ADD, 1, 0);
        y.turn(2);
        y.stop(1);
        y.turn(1);
        dueOf("stopped ones do not age", y, 1, AGE, 2);
        y.again(1);
        dueOf("the age stays", y, 1, AGE, 2);
    }

    private static void ends() {
        TaskTurns x = new TaskTurns();
        add(x, PLAIN, 0, ADD, 1, 0);
        x.turn(1);
        dueOf("done behind its last act", x, 0, STATE, DONE, NEXT, 1);
        TaskTurns y = new TaskTurns();
        y.task(PLAIN, 0);
        dueOf("ready without acts", y, 0, STATE, READY);
        y.turn(1);
        dueOf("done without acts", y, 0, STATE, DONE, NEXT, 0);
        due("no acts", y.count(2), 0);
        TaskTurns z = new TaskTurns();
        add(z, PLAIN, 9, ADD, 1, 0, ADD, 1, 0);
        z.task(PLAIN, 0);
        z.turn(2);
        dueOf("it waited", z, 1, STATE, READY, AGE, 2);
        z.turn(1);
        dueOf("it had its turn", z, 1, STATE, DONE, AGE, 0);
    }

    private static void letters() {
        TaskTurns x = new TaskTurns();
        due("letter to no task", x.letter(0, 1), BAD);
        add(x, PLAIN, 0, BY, 0, 0);
        int[] noTask = {-1, 1, 12, MIN, MAX};
        for (int task : noTask) due("letter to " + task, x.letter(task, 1), BAD);
        for (int i = 1; i <= 6; i++) due("letter " + i, x.letter(0, i * 10), i);
        due("a seventh", x.letter(0, 70), FULL);
        dueOf("six", x, 0, LETTERS, 6);
        x.turn(1);
        due("NO before FULL: failed", x.letter(0, 70), NO);
        x.again(0);
        due("letters stay", x.letter(0, 70), FULL);
        x.stop(0);
        due("stopped", x.letter(0, 70), NO);
        add(x, PLAIN, 0);
        x.turn(1);
        due("done", x.letter(1, 70), NO);
        due("by hand none is lost", x.count(3), 0);
        TaskTurns y = new TaskTurns();
        add(y, PLAIN, 0, WAIT, 3, 0, TAKE, 0, 0);
        add(y, PLAIN, 0, TAKE, 0, 0);
        y.turn(2);
        due("to one that waits", y.letter(0, MIN), 1);
        due("to one that is empty", y.letter(1, MAX), 1);
    }

    private static void stops() {
        TaskTurns x = new TaskTurns();
        due("stop no task", x.stop(0), BAD);
        add(x, PLAIN, 0, BY, 0, 0);
        add(x, PLAIN, 0);
        add(x, PLAIN, 0, TAKE, 0, 0);
        add(x, PLAIN, 0, WAIT, 5, 0, ADD, 1, 0);
        int[] noTask = {-1, 4, 12, MIN, MAX};
        for (int task : noTask) due("stop " + task, x.stop(task), BAD);
        x.workers(4);
        x.turn(1);
        due("failed", x.stop(0), NO);
        due("done", x.stop(1), NO);
        due("empty", x.stop(2), 1);
        due("waits", x.stop(3), 1);
        due("stopped", x.stop(3), NO);
        dueOf("failed stays", x, 0, STATE, FAILED);
        dueOf("done stays", x, 1, STATE, DONE);
        dueOf("stopped", x, 2, STATE, STOPPED, NEXT, 0);
        dueOf("stopped", x, 3, STATE, STOPPED, NEXT, 1);
        due("nobody works", x.turn(50), 0);
        add(x, PLAIN, 0, ADD, 1, 0);
        due("ready", x.stop(4), 1);
        due("nobody works", x.turn(50), 0);
    }

    private static void agains() {
        TaskTurns x = new TaskTurns();
        due("again no task", x.again(0), BAD);
        add(x, PLAIN, 0, ADD, 1, 0, ROW, 2, 0, MARK, 0, 0, ADD, 1, 0, BY, 0, 0);
        int[] noTask = {-1, 1, 12, MIN, MAX};
        for (int task : noTask) due("again " + task, x.again(task), BAD);
        due("ready", x.again(0), NO);
        x.turn(50);
        dueOf("failed", x, 0, STATE, FAILED, SUM, 2);
        due("failed", x.again(0), 1);
        dueOf("back at its mark", x, 0, STATE, READY, SUM, 1, NEXT, 3, ROW_LENGTH, 2, BACKS, 0, FAILURES, 1,
            LATEST, 6, FAILED_ACT, 4);
        due("ready again", x.again(0), NO);
        x.stop(0);
        due("stopped", x.again(0), 1);
        due("it works again", x.turn(50), 2);
        dueOf("and fails again", x, 0, STATE, FAILED, FAILURES, 2, BACKS, 0);
        TaskTurns y = new TaskTurns();
        add(y, PLAIN, 0, ROW, 2, 0, ADD, 7, 0, TAKE, 0, 0);
        add(y, PLAIN, 0, WAIT, 9, 0, ADD, 1, 0);
        add(y, PLAIN, 0);
        y.workers(4);
        y.turn(3);
        due("empty", y.again(0), NO);
        due("waits", y.again(1), NO);
        due("done", y.again(2), NO);
        y.stop(0);
        y.again(0);
        dueOf("without a mark", y, 0, STATE, READY, SUM, 0, NEXT, 0, ROW_LENGTH, NONE);
    }

    private static void ofWrong() {
        TaskTurns x = new TaskTurns();
        due("of no task", x.of(0, SUM), BAD);
        add(x, PLAIN, 0, ADD, -1, 0);
        int[] noTask = {-1, 1, 12, MIN, MAX};
        for (int task : noTask) due("of(" + task + ", 1)", x.of(task, SUM), BAD);
        int[] noWhat = {-1, 11, MIN, MAX};
        for (int what : noWhat) due("of(0, " + what + ")", x.of(0, what), BAD);
        x.turn(1);
        due("a sum of -1", x.of(0, SUM), -1);
        dueOf("a row of 0 ints", ran(PLAIN, ROW, 0, 0), 0, ROW_LENGTH, 0);
    }

    private static void places() {
        TaskTurns x = new TaskTurns();
        due("at no task", x.at(0, false, 0), BAD);
        due("in the box of no task", x.at(-1, true, 0), BAD);
        add(x, PLAIN, 0, ROW, 2, 0, BOX, 0, 0);
        due("no row", x.at(0, false, 0), BAD);
        due("no box", x.at(0, true, 0), BAD);
        x.turn(50);
        int[] noPlace = {-1, 3, MIN, MAX};
        for (int i : noPlace) {
            due("at(0, false, " + i + ")", x.at(0, false, i), BAD);
            due("at(0, true, " + i + ")", x.at(0, true, i), BAD);
        }
        due("above the row", x.at(0, false, 2), BAD);
        due("the last of the row", x.at(0, false, 1), 0);
        due("the last of the box", x.at(0, true, 2), 0);
        int[] noTask = {-1, 1, 12, MIN, MAX};
        for (int task : noTask) due("at(" + task + ", true, 0)", x.at(task, true, 0), BAD);
        TaskTurns y = ran(PLAIN, ROW, 0, 0, BOX, 1, 0);
        due("a row of 0 ints", y.at(0, false, 0), BAD);
        due("none there", y.at(0, true, 2), NONE);
        due("no such place", y.at(0, true, 3), BAD);
        due("nothing after a box", ran(PLAIN, BOX, 1, 0, BOX, 5, 0).at(0, true, 0), BAD);
    }

    private static void letterPlaces() {
        TaskTurns x = new TaskTurns();
        due("letterAt no task", x.letterAt(0, 0), BAD);
        add(x, PLAIN, 0, TAKE, 0, 0, TAKE, 0, 0);
        due("no letter", x.letterAt(0, 0), BAD);
        for (int i = 0; i < 6; i++) x.letter(0, 10 + i);
        for (int i = 0; i < 6; i++) due("letter " + i, x.letterAt(0, i), 10 + i);
        int[] noPlace = {-1, 6, MIN, MAX};
        for (int i : noPlace) due("letterAt(0, " + i + ")", x.letterAt(0, i), BAD);
        int[] noTask = {-1, 1, 12, MIN, MAX};
        for (int task : noTask) due("letterAt(" + task + ", 0)", x.letterAt(task, 0), BAD);
        x.turn(1);
        for (int i = 0; i < 5; i++) due("letter " + i + " behind a take", x.letterAt(0, i), 11 + i);
        due("one less", x.letterAt(0, 5), BAD);
        x.letter(0, 99);
        due("the youngest last", x.letterAt(0, 5), 99);
        x.stop(0);
        due("stopped ones have letters", x.letterAt(0, 0), 11);
    }

    private static void counts() {
        TaskTurns x = new TaskTurns();
        int[] noWhat = {-1, 7, MIN, MAX};
        for (int what : noWhat) due("count(" + what + ")", x.count(what), BAD);
        add(x, CAREFUL, 0, BY, 0, 0, GUARD, 2, 0, ADD, 1, 0, GUARD, 1, 0, ADD, 1, 0);
        add(x, PLAIN, 0, TAKE, 0, 0);
        add(x, PLAIN, 0, WAIT, 9, 0, ADD, 1, 0);
        add(x, PLAIN, 0, SEND, 4, 0);
        add(x, PLAIN, 0);
        add(x, PLAIN, 0, BY, 0, 0);
        x.stop(4);
        x.workers(4);
        due("all ready but one", x.count(6), 5);
        due("four acts", x.turn(1), 4);
        due("the other, and a guard", x.turn(1), 4);
        due("tasks", x.count(0), 6);
        due("turns", x.count(1), 2);
        due("acts", x.count(2), 8);
        due("lost", x.count(3), 1);
        due("left", x.count(4), 1);
        due("failures", x.count(5), 3);
        due("ready, wait, empty", x.count(6), 3);
        dueOf("ready", x, 0, STATE, READY, FAILURES, 2, LATEST, 8);
        dueOf("empty", x, 1, STATE, EMPTY);
        dueOf("waits", x, 2, STATE, WAITS);
    }

    private static void doneOrder() {
        TaskTurns x = new TaskTurns();
        add(x, PLAIN, 0, ADD, 1, 0);
        add(x, PLAIN, 5, BY, 0, 0);
        add(x, PLAIN, 9, ADD, 1, 0);
        add(x, PLAIN, 7);
        int[] none = {0, -1, MIN, MAX};
        for (int k : none) due("done(" + k + ")", x.done(k), NONE);
        for (int i = 0; i < 4; i++) x.turn(50);
        due("the first", x.done(0), 2);
        due("the second", x.done(1), 3);
        due("the third", x.done(2), 0);
        int[] behind = {3, 4, 12, -1, MIN, MAX};
        for (int k : behind) due("done(" + k + ")", x.done(k), NONE);
        TaskTurns y = new TaskTurns();
        for (int i = 0; i < 12; i++) y.task(PLAIN, i % 3);
        y.workers(4);
        for (int i = 0; i < 3; i++) y.turn(1);
        int[] order = {2, 5, 8, 11, 1, 4, 7, 10, 0, 3, 6, 9};
        for (int k = 0; k < 12; k++) due("done(" + k + ")", y.done(k), order[k]);
        due("done(12)", y.done(12), NONE);
    }
}
