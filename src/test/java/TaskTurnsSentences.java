import java.io.IOException;
import java.nio.file.Files;
import java.nio.file.Path;

// Every sentence of the document that names a boundary case, each with a test of its own. The words are the
// document's: a sentence that no longer stands in ../shared/DOC.md is told as wrong.
public final class TaskTurnsSentences {
    private static final int BAD = TaskTurns.BAD, NO = TaskTurns.NO, FULL = TaskTurns.FULL, NONE = TaskTurns.NONE;
    private static final int PLAIN = 0, DOUBLE = 1, CAREFUL = 2, STUBBORN = 3, PROUD = 4;
    private static final int READY = 0, WAITS = 1, EMPTY = 2, DONE = 3, FAILED = 4, STOPPED = 5;
    private static final int ADD = 0, BY = 1, ROW = 2, PUT = 3, GET = 4, TAKE = 5, SEND = 6, WAIT = 7;
    private static final int MARK = 8, GUARD = 9, BOX = 10, INTS = 11, OTHERS = 12, ASK = 13, CHECK = 14, COPY = 15;
    private static final int NULL = 1, INDEX = 2, STORE = 3, CAST = 4, SIZE = 5, ZERO = 6;
    private static final int STATE = 0, SUM = 1, NEXT = 2, LETTERS = 3, AGE = 4, FAILURES = 5, LATEST = 6;
    private static final int ROW_LENGTH = 7, BOX_KIND = 8, BACKS = 9, FAILED_ACT = 10;
    private static final int MIN = Integer.MIN_VALUE, MAX = Integer.MAX_VALUE;
    private static final int[] NO_TASK_BESIDE_0 = {-1, 1, 11, 12, MIN, MAX};

    private static String document = null;
    private static String sentence = "";
    private static int sentences = 0;
    private static int asked = 0;
    private static int wrong = 0;

    public static void main(String[] args) throws IOException {
        Path path = Path.of("../shared/DOC.md");
        if (Files.isReadable(path)) document = Files.readString(path).replaceAll("\\s+", " ");
        else System.out.println("the words are not looked up: there is no " + path);
        whatItIs();
        terms();
        sorts();
        acts();
        guards();
        boxes();
        failures();
        backs();
        turns();
        refusals();
        promises1To5();
        promises6To8();
        promises9To13();
        System.out.println(sentences + " sentences, " + asked + " answers looked at, " + wrong + " not as due");
        if (asked == 0 || wrong != 0) System.exit(1);
    }

    private static void whatItIs() {
        test("What it is", "An object is used for at most 512 calls after it has been made", TaskTurnsSentences::mostCalls);
    }

    private static void terms() {
        test("Terms", "TASKS, 12 at most, numbered from 0", TaskTurnsSentences::mostTasks);
        test("Terms", "a RANK (0 .. 9)", TaskTurnsSentences::rankEnds);
        test("Terms", "an AGE (0)", TaskTurnsSentences::firstAge);
        test("Terms", "ACTS (up to 16, numbered from 0; the one to do next is NEXT, 0 at first)",
            TaskTurnsSentences::mostActs);
        test("Terms", "a SUM (0), a ROW (NOTHING at first; else ints), a BOX (NOTHING; else an int ROW or a row of TASKS)",
            TaskTurnsSentences::nothingAtFirst);
        test("Terms", "LETTERS (ints; 6 at most, the eldest first)", TaskTurnsSentences::mostLetters);
        test("Terms", "All ints go round.", TaskTurnsSentences::intsGoRound);
        test("Terms", "STATES: 0 READY, 1 WAITS, 2 EMPTY (it wants a LETTER), 3 DONE, 4 FAILED, 5 STOPPED.",
            TaskTurnsSentences::states);
    }

    private static void sorts() {
        test("SORTS", "1 DOUBLE: PLAIN, but what ADD adds comes twice.", TaskTurnsSentences::doubleAdds);
        test("SORTS", "2 CAREFUL: PLAIN, but a FAILURE leaves it where it is, NEXT 1 more.", TaskTurnsSentences::carefulGoesOn);
        test("SORTS", "at its first three FAILURES it goes BACK to its MARK; then as CAREFUL.",
            TaskTurnsSentences::stubbornThreeTimes);
        test("SORTS", "what ADD adds comes twice, and it goes BACK five times.", TaskTurnsSentences::proudFiveTimes);
        test("SORTS", "PLAIN, DOUBLE ones are FAILED by a FAILURE.", TaskTurnsSentences::plainIsFailed);
        test("SORTS", "(NEXT is the ACT that FAILED then; of CAREFUL ones 1 more than that.)",
            TaskTurnsSentences::nextOfTheFailed);
    }

    private static void acts() {
        test("ACTS", "1 BY a: SUM becomes SUM / a (toward 0).", TaskTurnsSentences::byTowardZero);
        test("ACTS", "2 ROW a: ROW is a new one of a ints, all 0.", TaskTurnsSentences::rowIsNew);
        test("ACTS", "3 PUT a: ROW's int a becomes SUM.", TaskTurnsSentences::putEnds);
        test("ACTS", "4 GET a: SUM becomes ROW's int a more.", TaskTurnsSentences::getEnds);
        test("ACTS", "5 TAKE: the eldest LETTER goes, SUM becomes it more", TaskTurnsSentences::takeTheEldest);
        test("ACTS", "without one the TASK is EMPTY (NEXT stays) till one comes.", TaskTurnsSentences::takeWithoutLetter);
        test("ACTS", "6 SEND a b: a LETTER of SUM and b more comes to TASK a (INDEX: there is none such).",
            TaskTurnsSentences::sendToNone);
        test("ACTS", "If that is DONE, FAILED, STOPPED: it is LOST;", TaskTurnsSentences::sendIsLost);
        test("ACTS", "else, if that has six: FAILURE 7.", TaskTurnsSentences::sendToFull);
        test("ACTS", "7 WAIT a: the TASK WAITS: it has none in the next a TURNS", TaskTurnsSentences::waitTurns);
        test("ACTS", "(a not above 0: nothing).", TaskTurnsSentences::waitForNothing);
        test("ACTS", "8 MARK: the MARK is what the TASK has now: SUM, a copy of ROW, NEXT (behind this ACT).",
            TaskTurnsSentences::markIsACopy);
        test("ACTS", "14 CHECK a: FAILURE 10, if SUM is below a.", TaskTurnsSentences::checkEnds);
    }

    private static void guards() {
        test("GUARD", "whichever way they are left, by their end, or by a FAILURE of one, LEFT is one more",
            TaskTurnsSentences::guardIsLeft);
        test("GUARD", "done one behind the other, NEXT going on with each, all in this one TURN",
            TaskTurnsSentences::guardInOneTurn);
        test("GUARD", "(up to the TASK's end;", TaskTurnsSentences::guardToTheEnd);
        test("GUARD", "of a not above 0 none: LEFT is one more then, too;", TaskTurnsSentences::guardOfNone);
        test("GUARD", "a GUARD within is a FAILURE 8;", TaskTurnsSentences::guardWithin);
        test("GUARD", "TAKE without a LETTER: FAILURE 9;", TaskTurnsSentences::guardedTake);
        test("GUARD", "a WAIT counts when all are done,", TaskTurnsSentences::guardedWait);
        test("GUARD", "of several the last one that does something).", TaskTurnsSentences::guardedWaits);
    }

    private static void boxes() {
        test("BOX", "10 BOX a: BOX is, by a: 0 an int ROW of 3, 1 a row of TASKS of 3, else NOTHING.",
            TaskTurnsSentences::boxByA);
        test("BOX", "11 INTS a: BOX as an int ROW: its int a becomes SUM.", TaskTurnsSentences::intsEnds);
        test("BOX", "12 OTHERS a b: BOX as a row of TASKS: its place a becomes TASK b.", TaskTurnsSentences::othersEnds);
        test("BOX", "13 ASK a: SUM becomes the SUM of the TASK at place a of BOX, as a row of TASKS, more.",
            TaskTurnsSentences::askEnds);
        test("BOX", "15 COPY a: the first a ints of BOX become those of ROW.", TaskTurnsSentences::copyEnds);
    }

    private static void failures() {
        test("FAILURES", "1 NULL: of NOTHING;", TaskTurnsSentences::failsOfNothing);
        test("FAILURES", "2 INDEX: there is no such place, TASK;", TaskTurnsSentences::failsOfNoPlace);
        test("FAILURES", "3 STORE: BOX holds other things (COPY);", TaskTurnsSentences::failsToStore);
        test("FAILURES", "4 CAST: BOX holds other things;", TaskTurnsSentences::failsToCast);
        test("FAILURES", "5 SIZE: below 0;", TaskTurnsSentences::failsBySize);
        test("FAILURES", "6 ZERO;", TaskTurnsSentences::failsByZero);
        test("FAILURES", "11 to 13: CAST, NULL, INDEX of the place", TaskTurnsSentences::orderOfTheBox);
        test("FAILURES", "(of 12: TASK b first of all;", TaskTurnsSentences::orderOfOthers);
        test("FAILURES", "of 13: then NULL: none there);", TaskTurnsSentences::orderOfAsk);
        test("FAILURES", "COPY: NULL (ROW, BOX), STORE, INDEX.", TaskTurnsSentences::orderOfCopy);
    }

    private static void backs() {
        test("BACK", "SUM, ROW (a copy again), NEXT are as in the MARK", TaskTurnsSentences::backIsACopy);
        test("BACK", "(without one: 0, NOTHING, 0);", TaskTurnsSentences::backWithoutMark);
        test("BACK", "LETTERS, BOX, AGE stay.", TaskTurnsSentences::whatStays);
    }

    private static void turns() {
        test("A TURN", "those that WAIT and whose time is over are READY,", TaskTurnsSentences::timeIsOver);
        test("A TURN", "those EMPTY that have a LETTER, too.", TaskTurnsSentences::emptyWithALetter);
        test("A TURN", "WORKERS times (1 at first),", TaskTurnsSentences::workersTimes);
        test("A TURN", "the READY TASK that had none yet in this TURN,", TaskTurnsSentences::noneTwice);
        test("A TURN", "with the greatest RANK and AGE together (of like ones the least number)",
            TaskTurnsSentences::greatestRankAndAge);
        test("A TURN", "does its ACT NEXT (NEXT is 1 more then); its AGE becomes 0.", TaskTurnsSentences::ageBecomes0);
        test("A TURN", "If NEXT is behind all ACTS ahead of that, it is DONE without one (it had its turn);",
            TaskTurnsSentences::doneWithoutAnAct);
        test("A TURN", "if it is behind it, it is DONE (also when it WAITS).", TaskTurnsSentences::doneBehindTheLast);
        test("A TURN", "READY ones that had none: AGE 1 more.", TaskTurnsSentences::whoAges);
    }

    private static void refusals() {
        test("REFUSALS", "REFUSALS change nothing;", TaskTurnsSentences::refusalsChangeNothing);
        test("REFUSALS", "of several the first told: BAD (a number is not as told, or there is no such TASK, ACT), NO, FULL.",
            TaskTurnsSentences::firstTold);
    }

    private static void promises1To5() {
        test("Promise 1", "No TASKS, one WORKER.", TaskTurnsSentences::newObject);
        test("Promise 2", "A TASK of a SORT and RANK, without ACTS, READY: its number. BAD; FULL.", TaskTurnsSentences::task);
        test("Promise 3", "An ACT (0 .. 15) more of a TASK: its number.", TaskTurnsSentences::actKinds);
        test("Promise 3", "BAD (also a of ROW above 40);", TaskTurnsSentences::actOfLongRow);
        test("Promise 3", "NO: it is not READY, or did ACTS; FULL.", TaskTurnsSentences::actIsRefused);
        test("Promise 4", "How many WORKERS there are from now on (1 to 4): how many there were. BAD.",
            TaskTurnsSentences::workers);
        test("Promise 5", "So many TURNS (1 to 50),", TaskTurnsSentences::soManyTurns);
        test("Promise 5", "up to one in which nobody did an ACT (that one counts):", TaskTurnsSentences::upToAnIdleOne);
        test("Promise 5", "how many ACTS were done (those guarded, too). BAD.", TaskTurnsSentences::actsOfATurn);
    }

    private static void promises6To8() {
        test("Promise 6", "By hand a LETTER comes to a TASK: how many it has.", TaskTurnsSentences::letterByHand);
        test("Promise 6", "BAD; NO: it is DONE, FAILED, STOPPED; FULL.", TaskTurnsSentences::letterIsRefused);
        test("Promise 7", "A TASK is STOPPED: 1. BAD; NO: it is DONE, FAILED, STOPPED.", TaskTurnsSentences::stop);
        test("Promise 8", "A TASK that is FAILED, STOPPED is READY again, BACK at its MARK: 1. BAD; NO.",
            TaskTurnsSentences::again);
    }

    private static void promises9To13() {
        test("Promise 9", "Of a TASK: 0 STATE, 1 SUM, 2 NEXT, 3 LETTERS, 4 AGE,", TaskTurnsSentences::ofTheTask);
        test("Promise 9", "5 how many FAILURES it had, 6 the latest one (0: none),", TaskTurnsSentences::ofFailures);
        test("Promise 9", "7 ints of its ROW (NONE: NOTHING),", TaskTurnsSentences::ofTheRow);
        test("Promise 9", "8 what its BOX is (0, 1; NONE),", TaskTurnsSentences::ofTheBox);
        test("Promise 9", "9 how often it went BACK by itself,", TaskTurnsSentences::ofBacks);
        test("Promise 9", "10 the ACT of the latest FAILURE (NONE). BAD (which it may be).", TaskTurnsSentences::ofTheFailedAct);
        test("Promise 10", "Int i of a TASK's ROW (box = false), or of its BOX:", TaskTurnsSentences::atEnds);
        test("Promise 10", "of a row of TASKS the number (NONE: none there).", TaskTurnsSentences::atTasks);
        test("Promise 10", "BAD (which it may be): also no such place, NOTHING.", TaskTurnsSentences::atIsRefused);
        test("Promise 11", "LETTER i of a TASK, the eldest 0. BAD (which it may be).", TaskTurnsSentences::letterAt);
        test("Promise 12", "0 TASKS, 1 TURNS done,", TaskTurnsSentences::countTasks);
        test("Promise 12", "2 ACTS done (ones that FAILED, EMPTY ones, those guarded, too),", TaskTurnsSentences::countActs);
        test("Promise 12", "3 LETTERS that were LOST, 4 LEFT, 5 FAILURES,", TaskTurnsSentences::countLost);
        test("Promise 12", "6 TASKS that are READY, WAIT or EMPTY. BAD.", TaskTurnsSentences::countGoingOn);
        test("Promise 13", "The k-th of the TASKS as they became DONE (the first 0); NONE.", TaskTurnsSentences::done);
    }

    private static void test(String where, String words, Runnable askAll) {
        sentence = where + ", \"" + words + "\"";
        sentences++;
        if (document != null && !document.contains(words)) tellWrong("does not stand in the document");
        int before = asked;
        try {
            askAll.run();
        } catch (RuntimeException e) {
            tellWrong("threw " + e);
        }
        if (asked == before) tellWrong("no answer looked at");
    }

    private static void tellWrong(String what) {
        wrong++;
        System.out.println(sentence + ": " + what);
    }

    private static void due(String call, int got, int want) {
        asked++;
        if (got != want) tellWrong(call + " answered " + got + ", due is " + want);
    }

    /** Asks of a task, in pairs: what, and the answer that is due. */
    private static void dueOf(String about, TaskTurns x, int task, int... pairs) {
        for (int i = 0; i + 1 < pairs.length; i += 2) {
            due(about + ": of(" + task + ", " + pairs[i] + ")", x.of(task, pairs[i]), pairs[i + 1]);
        }
    }

    /** A new task with acts, each told as kind, a, b. */
    private static int add(TaskTurns x, int sort, int rank, int... acts) {
        int task = x.task(sort, rank);
        for (int i = 0; i + 2 < acts.length; i += 3) x.act(task, acts[i], acts[i + 1], acts[i + 2]);
        return task;
    }

    /** A new object with one task of these acts. */
    private static TaskTurns one(int sort, int... acts) {
        TaskTurns x = new TaskTurns();
        add(x, sort, 0, acts);
        return x;
    }

    /** A new object whose one task of these acts has done all it can. */
    private static TaskTurns ran(int sort, int... acts) {
        TaskTurns x = one(sort, acts);
        x.turn(50);
        return x;
    }

    private static void dueSum(String about, int sort, int sum, int... acts) {
        dueOf(about, ran(sort, acts), 0, STATE, DONE, SUM, sum, FAILURES, 0);
    }

    /** The last of the acts fails so. */
    private static void dueFailure(String about, int failure, int... acts) {
        int last = acts.length / 3 - 1;
        dueOf(about, ran(PLAIN, acts), 0, STATE, FAILED, LATEST, failure, FAILED_ACT, last, FAILURES, 1);
    }

    private static void dueFine(String about, int... acts) {
        dueOf(about, ran(PLAIN, acts), 0, STATE, DONE, FAILURES, 0);
    }

    private static void dueAt(String about, TaskTurns x, boolean box, int... values) {
        for (int i = 0; i < values.length; i++) {
            due(about + ": at(0, " + box + ", " + i + ")", x.at(0, box, i), values[i]);
        }
    }

    // What it is

    private static void mostCalls() {
        TaskTurns x = one(PLAIN, BY, 0, 0);
        for (int i = 0; i < 254; i++) {
            due("turn(1)", x.turn(1), 1);
            due("again(0)", x.again(0), 1);
        }
        due("call 511, count(5)", x.count(5), 254);
        due("call 512, count(1)", x.count(1), 254);
    }

    // Terms

    private static void mostTasks() {
        TaskTurns x = new TaskTurns();
        for (int i = 0; i < 12; i++) due("task " + i, x.task(PLAIN, 0), i);
        due("a thirteenth", x.task(PLAIN, 0), FULL);
        due("count(0)", x.count(0), 12);
        dueOf("the twelfth", x, 11, STATE, READY);
        due("there is no task 12", x.of(12, STATE), BAD);
    }

    private static void rankEnds() {
        TaskTurns x = new TaskTurns();
        int[] wrongRanks = {-1, 10, MIN, MAX};
        for (int rank : wrongRanks) due("task(0, " + rank + ")", x.task(PLAIN, rank), BAD);
        for (int rank = 0; rank <= 9; rank++) due("task(0, " + rank + ")", x.task(PLAIN, rank), rank);
        x.turn(1);
        dueOf("9 is the greatest", x, 9, STATE, DONE);
        dueOf("0 is below it", x, 0, STATE, READY);
    }

    private static void firstAge() {
        TaskTurns x = one(PLAIN, ADD, 1, 0, ADD, 1, 0);
        add(x, PLAIN, 0, ADD, 1, 0);
        dueOf("a new one", x, 0, AGE, 0);
        x.turn(1);
        dueOf("one that had none", x, 1, AGE, 1);
        x.task(PLAIN, 0);
        dueOf("a new one among older ones", x, 2, AGE, 0);
    }

    private static void mostActs() {
        TaskTurns x = one(PLAIN);
        dueOf("without acts", x, 0, NEXT, 0);
        for (int i = 0; i < 16; i++) due("act " + i, x.act(0, ADD, 1, 0), i);
        due("a seventeenth", x.act(0, ADD, 1, 0), FULL);
        dueOf("none done", x, 0, NEXT, 0);
        due("one act", x.turn(1), 1);
        dueOf("one done", x, 0, NEXT, 1);
        due("all others", x.turn(50), 15);
        dueOf("all done", x, 0, STATE, DONE, NEXT, 16, SUM, 16);
    }

    private static void nothingAtFirst() {
        TaskTurns x = one(PLAIN);
        dueOf("a new one", x, 0, SUM, 0, ROW_LENGTH, NONE, BOX_KIND, NONE);
        due("no row", x.at(0, false, 0), BAD);
        due("no box", x.at(0, true, 0), BAD);
        dueFailure("the row is nothing", NULL, PUT, 0, 0);
        dueFailure("the box is nothing", NULL, INTS, 0, 0);
        dueOf("an int row, a row of tasks", ran(PLAIN, ROW, 1, 0, BOX, 1, 0), 0, ROW_LENGTH, 1, BOX_KIND, 1);
        dueOf("an int box", ran(PLAIN, BOX, 0, 0), 0, BOX_KIND, 0);
    }

    private static void mostLetters() {
        TaskTurns x = one(PLAIN);
        dueOf("none at first", x, 0, LETTERS, 0);
        int[] values = {MIN, -1, 0, 1, MAX, BAD};
        for (int i = 0; i < 6; i++) due("letter " + i, x.letter(0, values[i]), i + 1);
        due("a seventh", x.letter(0, 9), FULL);
        dueOf("six", x, 0, LETTERS, 6);
        for (int i = 0; i < 6; i++) due("letterAt(0, " + i + ")", x.letterAt(0, i), values[i]);
    }

    private static void intsGoRound() {
        dueSum("ADD above the most", PLAIN, MIN, ADD, MAX, 0, ADD, 1, 0);
        dueSum("ADD below the least", PLAIN, MAX, ADD, MIN, 0, ADD, -1, 0);
        dueSum("ADD of a DOUBLE one", DOUBLE, 0, ADD, MIN, 0);
        dueSum("ADD of a PROUD one", PROUD, -2, ADD, MAX, 0);
        dueSum("BY", PLAIN, MIN, ADD, MIN, 0, BY, -1, 0);
        dueSum("GET", PLAIN, -2, ADD, MAX, 0, ROW, 1, 0, PUT, 0, 0, GET, 0, 0);
        dueSum("ASK of itself", PLAIN, 0, ADD, MIN, 0, BOX, 1, 0, OTHERS, 0, 0, ASK, 0, 0);
        dueSum("SEND, then TAKE", PLAIN, -1, ADD, MAX, 0, SEND, 0, 1, TAKE, 0, 0);
        TaskTurns x = one(PLAIN, ADD, MIN, 0, SEND, 0, -1, ADD, 0, 0);
        x.turn(2);
        due("SEND below the least", x.letterAt(0, 0), MAX);
    }

    private static void states() {
        TaskTurns x = inEveryState();
        for (int state = READY; state <= STOPPED; state++) dueOf("task " + state, x, state, STATE, state);
    }

    /** A new object whose tasks 0 to 5 are in the states 0 to 5: three turns were done. */
    private static TaskTurns inEveryState() {
        TaskTurns x = new TaskTurns();
        add(x, PLAIN, 0, ADD, 1, 0, ADD, 1, 0, ADD, 1, 0, ADD, 1, 0);
        add(x, PLAIN, 0, WAIT, 9, 0, ADD, 1, 0);
        add(x, PLAIN, 0, TAKE, 0, 0);
        add(x, PLAIN, 0, ADD, 1, 0);
        add(x, PLAIN, 0, BY, 0, 0);
        add(x, PLAIN, 0, ADD, 1, 0);
        x.stop(5);
        x.workers(2);
        x.turn(3);
        return x;
    }

    // SORTS

    private static void doubleAdds() {
        dueSum("ADD twice", DOUBLE, 6, ADD, 3, 0);
        dueSum("ADD below 0 twice", DOUBLE, -6, ADD, -3, 0);
        dueSum("a PLAIN one once", PLAIN, 3, ADD, 3, 0);
        dueSum("GET once", DOUBLE, 12, ADD, 3, 0, ROW, 1, 0, PUT, 0, 0, GET, 0, 0);
        dueSum("SEND and TAKE once", DOUBLE, 13, ADD, 3, 0, SEND, 0, 1, TAKE, 0, 0);
        dueSum("ASK once", DOUBLE, 12, ADD, 3, 0, BOX, 1, 0, OTHERS, 0, 0, ASK, 0, 0);
    }

    private static void carefulGoesOn() {
        TaskTurns x = one(CAREFUL, ADD, 3, 0, ROW, 1, 0, BY, 0, 0, ADD, 1, 0, BY, 0, 0);
        x.turn(3);
        dueOf("where it is", x, 0, STATE, READY, SUM, 3, ROW_LENGTH, 1, NEXT, 3, BACKS, 0);
        x.turn(2);
        dueOf("also at its last act", x, 0, STATE, DONE, SUM, 4, NEXT, 5, FAILURES, 2, BACKS, 0);
    }

    private static void stubbornThreeTimes() {
        TaskTurns x = one(STUBBORN, ADD, 3, 0, MARK, 0, 0, ADD, 1, 0, BY, 0, 0, ADD, 1, 0, BY, 0, 0, ADD, 1, 0);
        x.turn(2);
        for (int i = 1; i <= 3; i++) {
            x.turn(2);
            dueOf("failure " + i, x, 0, STATE, READY, SUM, 3, NEXT, 2, BACKS, i, FAILURES, i);
        }
        x.turn(2);
        dueOf("failure 4", x, 0, STATE, READY, SUM, 4, NEXT, 4, BACKS, 3, FAILURES, 4);
        x.turn(2);
        dueOf("failure 5, of another act", x, 0, STATE, READY, SUM, 5, NEXT, 6, BACKS, 3, FAILURES, 5);
        TaskTurns y = one(STUBBORN, TAKE, 0, 0, CHECK, 5, 0, BY, 0, 0, ADD, 1, 0);
        int[] values = {1, 9, 9, 9};
        for (int v : values) y.letter(0, v);
        y.turn(50);
        dueOf("first three of all its acts together", y, 0, STATE, DONE, SUM, 10, BACKS, 3, FAILURES, 4, LETTERS, 0);
    }

    private static void proudFiveTimes() {
        TaskTurns x = one(PROUD, ADD, 3, 0, MARK, 0, 0, ADD, 1, 0, BY, 0, 0, ADD, 1, 0);
        x.turn(2);
        for (int i = 1; i <= 5; i++) {
            x.turn(2);
            dueOf("failure " + i, x, 0, STATE, READY, SUM, 6, NEXT, 2, BACKS, i, FAILURES, i);
        }
        x.turn(2);
        dueOf("failure 6", x, 0, STATE, READY, SUM, 8, NEXT, 4, BACKS, 5, FAILURES, 6);
        x.turn(1);
        dueOf("its end", x, 0, STATE, DONE, SUM, 10);
    }

    private static void plainIsFailed() {
        int[] acts = {ADD, 3, 0, MARK, 0, 0, BY, 0, 0, ADD, 1, 0};
        for (int sort = PLAIN; sort <= DOUBLE; sort++) {
            TaskTurns x = ran(sort, acts);
            dueOf("at the first", x, 0, STATE, FAILED, SUM, 3 + 3 * sort, NEXT, 2, FAILURES, 1, BACKS, 0);
            due("it does nothing more", x.turn(9), 0);
        }
        for (int sort = CAREFUL; sort <= PROUD; sort++) dueOf("others are not", ran(sort, acts), 0, STATE, DONE);
    }

    private static void nextOfTheFailed() {
        int[] atTheEnd = {ADD, 1, 0, BY, 0, 0};
        dueOf("PLAIN", ran(PLAIN, atTheEnd), 0, STATE, FAILED, NEXT, 1, FAILED_ACT, 1);
        dueOf("CAREFUL", ran(CAREFUL, atTheEnd), 0, STATE, DONE, NEXT, 2, FAILED_ACT, 1);
        int[] within = {GUARD, 3, 0, ADD, 1, 0, BY, 0, 0, ADD, 1, 0, ADD, 1, 0};
        dueOf("PLAIN, in a GUARD", ran(PLAIN, within), 0, STATE, FAILED, NEXT, 2, FAILED_ACT, 2);
        TaskTurns x = one(CAREFUL, within);
        x.turn(1);
        dueOf("CAREFUL, in a GUARD", x, 0, STATE, READY, NEXT, 3, FAILED_ACT, 2);
    }

    // ACTS

    private static void byTowardZero() {
        dueSum("7 / 2", PLAIN, 3, ADD, 7, 0, BY, 2, 0);
        dueSum("-7 / 2", PLAIN, -3, ADD, -7, 0, BY, 2, 0);
        dueSum("7 / -2", PLAIN, -3, ADD, 7, 0, BY, -2, 0);
        dueSum("-7 / -2", PLAIN, 3, ADD, -7, 0, BY, -2, 0);
        dueSum("-1 / the most", PLAIN, 0, ADD, -1, 0, BY, MAX, 0);
        dueSum("the most / the least", PLAIN, 0, ADD, MAX, 0, BY, MIN, 0);
    }

    private static void rowIsNew() {
        dueOf("of none", ran(PLAIN, ROW, 0, 0), 0, STATE, DONE, ROW_LENGTH, 0);
        dueOf("of the most", ran(PLAIN, ROW, 40, 0), 0, STATE, DONE, ROW_LENGTH, 40);
        TaskTurns x = ran(PLAIN, ADD, 6, 0, ROW, 2, 0, PUT, 0, 0, PUT, 1, 0, ROW, 3, 0);
        dueOf("a longer one", x, 0, ROW_LENGTH, 3);
        dueAt("all 0", x, false, 0, 0, 0, BAD);
        TaskTurns y = ran(PLAIN, ADD, 6, 0, ROW, 2, 0, PUT, 0, 0, PUT, 1, 0, ROW, 1, 0);
        dueOf("a shorter one", y, 0, ROW_LENGTH, 1);
        dueAt("no more of the one before", y, false, 0, BAD);
        TaskTurns z = ran(PLAIN, ADD, 6, 0, ROW, 2, 0, PUT, 1, 0, ROW, 1, 0, ROW, 2, 0);
        dueAt("what came back is 0", z, false, 0, 0, BAD);
    }

    private static void putEnds() {
        dueAt("first and last", ran(PLAIN, ROW, 3, 0, ADD, 6, 0, PUT, 0, 0, ADD, 1, 0, PUT, 2, 0), false, 6, 0, 7);
        TaskTurns x = ran(PLAIN, ROW, 40, 0, ADD, 6, 0, PUT, 39, 0);
        due("the last of the longest", x.at(0, false, 39), 6);
        due("none beside it", x.at(0, false, 38), 0);
        dueFailure("behind the last", INDEX, ROW, 3, 0, PUT, 3, 0);
        dueFailure("ahead of the first", INDEX, ROW, 3, 0, PUT, -1, 0);
        dueAt("a failure changes nothing", ran(PLAIN, ROW, 2, 0, ADD, 6, 0, PUT, 2, 0), false, 0, 0, BAD);
    }

    private static void getEnds() {
        dueSum("the first", PLAIN, 12, ADD, 6, 0, ROW, 3, 0, PUT, 0, 0, GET, 0, 0, GET, 1, 0);
        dueSum("the last", PLAIN, 12, ADD, 6, 0, ROW, 40, 0, PUT, 39, 0, GET, 39, 0, GET, 38, 0);
        dueFailure("behind the last", INDEX, ROW, 3, 0, GET, 3, 0);
        dueFailure("ahead of the first", INDEX, ROW, 3, 0, GET, -1, 0);
        dueOf("a failure changes nothing", ran(PLAIN, ADD, 6, 0, ROW, 1, 0, PUT, 0, 0, GET, 1, 0), 0, SUM, 6);
    }

    private static void takeTheEldest() {
        TaskTurns x = one(PLAIN, TAKE, 0, 0, TAKE, 0, 0, TAKE, 0, 0, TAKE, 0, 0, TAKE, 0, 0, TAKE, 0, 0, ADD, 0, 0);
        int sum = 0;
        for (int i = 0; i < 6; i++) x.letter(0, 1 << i);
        for (int i = 0; i < 6; i++) {
            x.turn(1);
            sum += 1 << i;
            dueOf("take " + i, x, 0, STATE, READY, SUM, sum, LETTERS, 5 - i, NEXT, i + 1);
        }
        due("none left", x.letterAt(0, 0), BAD);
    }

    private static void takeWithoutLetter() {
        TaskTurns x = one(PLAIN, ADD, 2, 0, TAKE, 0, 0, ADD, 1, 0);
        x.turn(2);
        dueOf("it came to no letter", x, 0, STATE, EMPTY, NEXT, 1, SUM, 2, FAILURES, 0);
        due("it has none of the turns", x.turn(3), 0);
        dueOf("still none", x, 0, STATE, EMPTY, NEXT, 1);
        x.letter(0, 5);
        due("it takes it, then goes on", x.turn(2), 2);
        dueOf("behind", x, 0, STATE, DONE, NEXT, 3, SUM, 8, LETTERS, 0);
        dueOf("also at its last act", ran(PLAIN, TAKE, 0, 0), 0, STATE, EMPTY, NEXT, 0);
    }

    private static void sendToNone() {
        int[] none = {-1, 1, 11, 12, MIN, MAX};
        for (int to : none) dueFailure("SEND " + to, INDEX, SEND, to, 0);
        TaskTurns x = new TaskTurns();
        for (int i = 0; i < 12; i++) x.task(CAREFUL, i == 0 ? 9 : 0);
        int[] all = {11, 12, 0};
        for (int to : all) x.act(0, SEND, to, 4);
        x.act(0, ADD, 0, 0);
        x.turn(3);
        dueOf("only 12 is none such", x, 0, FAILURES, 1, FAILED_ACT, 1, LATEST, INDEX);
        due("the last task has it", x.letterAt(11, 0), 4);
        due("the sender itself has it", x.letterAt(0, 0), 4);
    }

    private static void sendIsLost() {
        TaskTurns x = inEveryState();
        add(x, PLAIN, 9, SEND, 0, 0, SEND, 1, 0, SEND, 2, 0, SEND, 3, 0, SEND, 4, 0, SEND, 5, 0, ADD, 1, 0);
        x.workers(1);
        x.turn(3);
        due("none of READY, WAITS, EMPTY", x.count(3), 0);
        for (int to = 0; to < 3; to++) dueOf("it came", x, to, LETTERS, 1);
        for (int lost = 1; lost <= 3; lost++) {
            x.turn(1);
            due("of DONE, FAILED, STOPPED: " + lost, x.count(3), lost);
            dueOf("it did not come", x, 2 + lost, LETTERS, 0);
        }
        dueOf("no failure", x, 6, STATE, READY, NEXT, 6, FAILURES, 0);
        TaskTurns y = new TaskTurns();
        add(y, PLAIN, 0, SEND, 1, 0);
        y.task(PLAIN, 0);
        for (int i = 0; i < 6; i++) y.letter(1, i);
        y.stop(1);
        y.turn(1);
        dueOf("lost ahead of full", y, 0, STATE, DONE, FAILURES, 0);
        due("lost ahead of full", y.count(3), 1);
    }

    private static void sendToFull() {
        TaskTurns x = new TaskTurns();
        add(x, PLAIN, 9, SEND, 1, 0, SEND, 1, 0, ADD, 1, 0);
        x.task(PLAIN, 0);
        for (int i = 0; i < 5; i++) x.letter(1, 7);
        x.turn(1);
        dueOf("the sixth comes", x, 0, STATE, READY, FAILURES, 0);
        dueOf("the sixth comes", x, 1, LETTERS, 6);
        x.turn(1);
        dueOf("a seventh fails", x, 0, STATE, FAILED, LATEST, 7, NEXT, 1);
        dueOf("six stay", x, 1, LETTERS, 6);
        due("it is not lost", x.count(3), 0);
        TaskTurns y = one(PLAIN, SEND, 0, 0);
        for (int i = 0; i < 6; i++) y.letter(0, 7);
        y.turn(1);
        dueOf("its own, too", y, 0, STATE, FAILED, LATEST, 7);
    }

    private static void waitTurns() {
        for (int a = 1; a <= 4; a++) {
            TaskTurns x = one(PLAIN, WAIT, a, 0, ADD, 1, 0);
            due("WAIT " + a + " itself", x.turn(1), 1);
            for (int i = 0; i < a; i++) {
                dueOf("WAIT " + a, x, 0, STATE, WAITS, NEXT, 1);
                due("WAIT " + a + ", turn " + i, x.turn(1), 0);
            }
            due("behind WAIT " + a, x.turn(1), 1);
        }
        TaskTurns y = one(PLAIN, WAIT, MAX, 0, ADD, 1, 0);
        y.turn(1);
        for (int i = 0; i < 400; i++) due("WAIT of the most", y.turn(50), 0);
        dueOf("WAIT of the most", y, 0, STATE, WAITS, NEXT, 1);
    }

    private static void waitForNothing() {
        int[] notAbove = {0, -1, MIN};
        for (int a : notAbove) {
            TaskTurns x = one(PLAIN, WAIT, a, 0, ADD, 1, 0);
            due("WAIT " + a, x.turn(1), 1);
            dueOf("WAIT " + a, x, 0, STATE, READY, NEXT, 1, FAILURES, 0);
            due("behind WAIT " + a, x.turn(1), 1);
        }
    }

    private static void markIsACopy() {
        TaskTurns x = one(PLAIN, ADD, 2, 0, ROW, 2, 0, PUT, 0, 0, MARK, 0, 0, ADD, 5, 0, PUT, 0, 0, PUT, 1, 0, BY, 0, 0);
        x.turn(50);
        dueAt("the row of now", x, false, 7, 7);
        x.again(0);
        dueOf("the mark's", x, 0, SUM, 2, NEXT, 4, ROW_LENGTH, 2);
        dueAt("the row of then", x, false, 2, 0, BAD);
        TaskTurns y = ran(PLAIN, MARK, 0, 0, ROW, 2, 0, BY, 0, 0);
        y.again(0);
        dueOf("a mark of NOTHING", y, 0, SUM, 0, NEXT, 1, ROW_LENGTH, NONE);
        TaskTurns z = ran(PLAIN, ROW, 0, 0, MARK, 0, 0, ROW, 2, 0, BY, 0, 0);
        z.again(0);
        dueOf("a mark of a row of none", z, 0, NEXT, 2, ROW_LENGTH, 0);
        TaskTurns g = ran(PLAIN, GUARD, 3, 0, ADD, 1, 0, MARK, 0, 0, BY, 0, 0);
        g.again(0);
        dueOf("a mark in a GUARD", g, 0, SUM, 1, NEXT, 3);
    }

    private static void checkEnds() {
        dueFine("the same", ADD, 4, 0, CHECK, 4, 0);
        dueFine("one above", ADD, 4, 0, CHECK, 3, 0);
        dueFailure("one below", 10, ADD, 4, 0, CHECK, 5, 0);
        dueFine("the most above the least", ADD, MAX, 0, CHECK, MIN, 0);
        dueFailure("the least below the most", 10, ADD, MIN, 0, CHECK, MAX, 0);
        dueFine("the least and the least", ADD, MIN, 0, CHECK, MIN, 0);
        dueFailure("below 0", 10, ADD, -1, 0, CHECK, 0, 0);
    }

    // GUARD

    private static void guardIsLeft() {
        due("by their end", ran(PLAIN, GUARD, 2, 0, ADD, 1, 0, ADD, 1, 0, ADD, 1, 0).count(4), 1);
        due("by a failure of the first", ran(PLAIN, GUARD, 2, 0, BY, 0, 0, ADD, 1, 0).count(4), 1);
        due("by a failure of the last", ran(PLAIN, GUARD, 2, 0, ADD, 1, 0, BY, 0, 0).count(4), 1);
        due("not by one behind them", ran(PLAIN, GUARD, 1, 0, ADD, 1, 0, BY, 0, 0).count(4), 1);
        due("by the failures of a STUBBORN one", ran(STUBBORN, GUARD, 1, 0, BY, 0, 0).count(4), 4);
        due("one GUARD behind the other", ran(PLAIN, GUARD, 1, 0, ADD, 1, 0, GUARD, 1, 0, ADD, 1, 0).count(4), 2);
        due("no GUARD", ran(PLAIN, BY, 0, 0).count(4), 0);
    }

    private static void guardInOneTurn() {
        TaskTurns x = one(PLAIN, GUARD, 2, 0, ADD, 1, 0, ADD, 2, 0, ADD, 4, 0);
        due("the GUARD and two", x.turn(1), 3);
        dueOf("up to the third", x, 0, STATE, READY, SUM, 3, NEXT, 3);
        due("the one behind them", x.turn(1), 1);
        TaskTurns y = one(CAREFUL, GUARD, 3, 0, ADD, 1, 0, BY, 0, 0, ADD, 2, 0, ADD, 4, 0);
        due("up to the one that fails", y.turn(1), 3);
        dueOf("behind it", y, 0, STATE, READY, SUM, 1, NEXT, 3);
        due("the next is not guarded any more", y.turn(1), 1);
        due("left once", y.count(4), 1);
    }

    private static void guardToTheEnd() {
        int[] reach = {2, 3, 16, MAX};
        for (int a : reach) {
            TaskTurns x = one(PLAIN, GUARD, a, 0, ADD, 1, 0, ADD, 2, 0);
            due("GUARD " + a, x.turn(1), 3);
            dueOf("GUARD " + a, x, 0, STATE, DONE, SUM, 3, NEXT, 3, FAILURES, 0);
            due("GUARD " + a + ": LEFT", x.count(4), 1);
        }
        TaskTurns y = one(PLAIN, GUARD, 5, 0);
        due("a GUARD that is the last", y.turn(1), 1);
        dueOf("a GUARD that is the last", y, 0, STATE, DONE, NEXT, 1);
        due("a GUARD that is the last: LEFT", y.count(4), 1);
        TaskTurns z = one(PLAIN, GUARD, 15, 0);
        for (int i = 1; i < 16; i++) z.act(0, ADD, 1, 0);
        due("sixteen acts in one turn", z.turn(1), 16);
        dueOf("sixteen acts in one turn", z, 0, STATE, DONE, NEXT, 16, SUM, 15);
    }

    private static void guardOfNone() {
        int[] notAbove = {0, -1, MIN};
        for (int a : notAbove) {
            TaskTurns x = one(PLAIN, GUARD, a, 0, ADD, 1, 0);
            due("GUARD " + a, x.turn(1), 1);
            dueOf("GUARD " + a, x, 0, STATE, READY, SUM, 0, NEXT, 1);
            due("GUARD " + a + ": LEFT", x.count(4), 1);
        }
        due("a GUARD of one", one(PLAIN, GUARD, 1, 0, ADD, 1, 0).turn(1), 2);
    }

    private static void guardWithin() {
        TaskTurns x = ran(PLAIN, GUARD, 2, 0, ADD, 1, 0, GUARD, 0, 0);
        dueOf("within", x, 0, STATE, FAILED, LATEST, 8, FAILED_ACT, 2, NEXT, 2);
        due("only the one around is left", x.count(4), 1);
        due("both were acts", x.count(2), 3);
        dueFine("behind, not within", GUARD, 1, 0, ADD, 1, 0, GUARD, 1, 0, ADD, 1, 0);
        dueFine("behind a GUARD of none", GUARD, 0, 0, GUARD, 1, 0, ADD, 1, 0);
    }

    private static void guardedTake() {
        TaskTurns x = ran(PLAIN, GUARD, 1, 0, TAKE, 0, 0);
        dueOf("without", x, 0, STATE, FAILED, LATEST, 9, FAILED_ACT, 1);
        due("LEFT", x.count(4), 1);
        TaskTurns y = one(PLAIN, GUARD, 2, 0, TAKE, 0, 0, TAKE, 0, 0);
        y.letter(0, 5);
        y.turn(1);
        dueOf("with one of two", y, 0, STATE, FAILED, LATEST, 9, FAILED_ACT, 2, SUM, 5, LETTERS, 0);
        TaskTurns z = ran(PLAIN, GUARD, 1, 0, ADD, 1, 0, TAKE, 0, 0);
        dueOf("behind the guarded ones", z, 0, STATE, EMPTY, FAILURES, 0, NEXT, 2);
    }

    private static void guardedWait() {
        TaskTurns x = one(PLAIN, GUARD, 2, 0, WAIT, 2, 0, ADD, 1, 0, ADD, 2, 0);
        due("the one behind WAIT is done, too", x.turn(1), 3);
        dueOf("then it waits", x, 0, STATE, WAITS, SUM, 1, NEXT, 3);
        due("turn 1", x.turn(1), 0);
        due("turn 2", x.turn(1), 0);
        due("its time is over", x.turn(1), 1);
        TaskTurns y = one(CAREFUL, GUARD, 2, 0, WAIT, 9, 0, BY, 0, 0, ADD, 1, 0, ADD, 1, 0);
        y.turn(1);
        dueOf("not all were done", y, 0, STATE, READY, NEXT, 3);
        due("it goes on at once", y.turn(1), 1);
        dueOf("that WAIT does not come later", y, 0, STATE, READY, NEXT, 4);
        TaskTurns z = one(STUBBORN, GUARD, 2, 0, WAIT, 9, 0, BY, 0, 0);
        z.turn(1);
        dueOf("gone BACK", z, 0, STATE, READY, NEXT, 0, BACKS, 1);
    }

    private static void guardedWaits() {
        int[][] waits = {{5, 2}, {2, 5}};
        for (int[] two : waits) {
            TaskTurns x = one(PLAIN, GUARD, 4, 0, WAIT, two[0], 0, WAIT, two[1], 0, WAIT, 0, 0, WAIT, -1, 0, ADD, 1, 0);
            x.turn(1);
            dueOf("it waits", x, 0, STATE, WAITS, NEXT, 5);
            for (int i = 0; i < two[1]; i++) due("turn " + i + " of " + two[1], x.turn(1), 0);
            due("its time is over", x.turn(1), 1);
        }
        TaskTurns y = one(PLAIN, GUARD, 2, 0, WAIT, 0, 0, WAIT, MIN, 0, ADD, 1, 0);
        y.turn(1);
        dueOf("none does something", y, 0, STATE, READY, NEXT, 3);
    }

    // BOX

    private static void boxByA() {
        TaskTurns ints = ran(PLAIN, BOX, 0, 0);
        dueOf("BOX 0", ints, 0, BOX_KIND, 0);
        dueAt("BOX 0", ints, true, 0, 0, 0, BAD);
        TaskTurns others = ran(PLAIN, BOX, 1, 0);
        dueOf("BOX 1", others, 0, BOX_KIND, 1);
        dueAt("BOX 1", others, true, NONE, NONE, NONE, BAD);
        int[] nothing = {2, -1, NONE, MIN, MAX};
        for (int a : nothing) {
            TaskTurns x = ran(PLAIN, BOX, 1, 0, BOX, a, 0);
            dueOf("BOX " + a, x, 0, STATE, DONE, BOX_KIND, NONE);
            dueAt("BOX " + a, x, true, BAD);
        }
        dueAt("a new one", ran(PLAIN, ADD, 4, 0, BOX, 0, 0, INTS, 1, 0, BOX, 0, 0), true, 0, 0, 0);
        dueAt("a new one of tasks", ran(PLAIN, BOX, 1, 0, OTHERS, 1, 0, BOX, 1, 0), true, NONE, NONE, NONE);
        dueAt("tasks behind ints", ran(PLAIN, BOX, 0, 0, INTS, 1, 0, BOX, 1, 0), true, NONE, NONE, NONE);
    }

    private static void intsEnds() {
        TaskTurns x = ran(PLAIN, BOX, 0, 0, ADD, 6, 0, INTS, 0, 0, ADD, 1, 0, INTS, 2, 0);
        dueOf("the sum stays", x, 0, STATE, DONE, SUM, 7);
        dueAt("first and last", x, true, 6, 0, 7);
        dueFailure("behind the last", INDEX, BOX, 0, 0, INTS, 3, 0);
        dueFailure("ahead of the first", INDEX, BOX, 0, 0, INTS, -1, 0);
        dueAt("a failure changes nothing", ran(PLAIN, BOX, 0, 0, ADD, 6, 0, INTS, 3, 0), true, 0, 0, 0, BAD);
    }

    private static void othersEnds() {
        TaskTurns x = new TaskTurns();
        for (int i = 0; i < 12; i++) x.task(CAREFUL, i == 0 ? 9 : 0);
        int[][] acts = {{BOX, 1, 0}, {OTHERS, 0, 11}, {OTHERS, 2, 0}, {OTHERS, 1, 12}, {OTHERS, 3, 5}, {OTHERS, -1, 5}};
        for (int[] act : acts) x.act(0, act[0], act[1], act[2]);
        x.turn(6);
        dueAt("first and last", x, true, 11, NONE, 0, BAD);
        dueOf("three fail", x, 0, FAILURES, 3, LATEST, INDEX, FAILED_ACT, 5);
        dueAt("another in its place", ran(PLAIN, BOX, 1, 0, OTHERS, 2, 0, OTHERS, 2, 0), true, NONE, NONE, 0);
    }

    private static void askEnds() {
        dueSum("the first", PLAIN, 8, ADD, 4, 0, BOX, 1, 0, OTHERS, 0, 0, ASK, 0, 0);
        dueSum("the last", PLAIN, 8, ADD, 4, 0, BOX, 1, 0, OTHERS, 2, 0, ASK, 2, 0);
        dueFailure("behind the last", INDEX, BOX, 1, 0, ASK, 3, 0);
        dueFailure("ahead of the first", INDEX, BOX, 1, 0, ASK, -1, 0);
        TaskTurns x = new TaskTurns();
        add(x, PLAIN, 0, ADD, 1, 0, BOX, 1, 0, OTHERS, 0, 1, ASK, 0, 0);
        add(x, PLAIN, 9, ADD, 5, 0, BY, 0, 0);
        x.turn(50);
        dueOf("of one that is FAILED", x, 0, STATE, DONE, SUM, 6);
    }

    private static void copyEnds() {
        int[] start = {ADD, 5, 0, BOX, 0, 0, INTS, 0, 0, INTS, 1, 0, INTS, 2, 0, ADD, 1, 0, ROW, 4, 0, PUT, 0, 0, PUT, 1, 0};
        dueAt("none", ran(PLAIN, and(start, COPY, 0)), true, 5, 5, 5);
        dueAt("one", ran(PLAIN, and(start, COPY, 1)), true, 6, 5, 5);
        dueAt("two", ran(PLAIN, and(start, COPY, 2)), true, 6, 6, 5);
        dueAt("all of BOX", ran(PLAIN, and(start, COPY, 3)), true, 6, 6, 0);
        dueFailure("more than BOX has", INDEX, and(start, COPY, 4));
        dueAt("a failure changes nothing", ran(PLAIN, and(start, COPY, 4)), true, 5, 5, 5);
        dueAt("nor ROW", ran(PLAIN, and(start, COPY, 3)), false, 6, 6, 0, 0);
        dueFine("all of ROW", BOX, 0, 0, ROW, 2, 0, COPY, 2, 0);
        dueFailure("more than ROW has", INDEX, BOX, 0, 0, ROW, 2, 0, COPY, 3, 0);
        dueFine("none of a row of none", BOX, 0, 0, ROW, 0, 0, COPY, 0, 0);
        dueFailure("one of a row of none", INDEX, BOX, 0, 0, ROW, 0, 0, COPY, 1, 0);
    }

    /** These acts and one behind them. */
    private static int[] and(int[] acts, int kind, int a) {
        int[] all = new int[acts.length + 3];
        System.arraycopy(acts, 0, all, 0, acts.length);
        all[acts.length] = kind;
        all[acts.length + 1] = a;
        return all;
    }

    // FAILURES

    private static void failsOfNothing() {
        dueFailure("PUT", NULL, PUT, 0, 0);
        dueFailure("GET", NULL, GET, 0, 0);
        dueFailure("INTS", NULL, INTS, 0, 0);
        dueFailure("OTHERS", NULL, OTHERS, 0, 0);
        dueFailure("ASK", NULL, ASK, 0, 0);
        dueFailure("COPY without ROW", NULL, BOX, 0, 0, COPY, 0, 0);
        dueFailure("COPY without BOX", NULL, ROW, 0, 0, COPY, 0, 0);
        dueFailure("a BOX of NOTHING again", NULL, BOX, 0, 0, BOX, 2, 0, INTS, 0, 0);
        dueFailure("PUT below 0: there is no ROW first", NULL, PUT, -1, 0);
        dueFailure("GET below 0: there is no ROW first", NULL, GET, -1, 0);
    }

    private static void failsOfNoPlace() {
        int[] noPlace = {-1, 40, MIN, MAX};
        for (int a : noPlace) {
            dueFailure("PUT " + a, INDEX, ROW, 40, 0, PUT, a, 0);
            dueFailure("GET " + a, INDEX, ROW, 40, 0, GET, a, 0);
            dueFailure("INTS " + a, INDEX, BOX, 0, 0, INTS, a, 0);
            dueFailure("OTHERS " + a, INDEX, BOX, 1, 0, OTHERS, a, 0);
            dueFailure("ASK " + a, INDEX, BOX, 1, 0, ASK, a, 0);
            dueFailure("COPY " + a, INDEX, BOX, 0, 0, ROW, 39, 0, COPY, a, 0);
        }
        dueFailure("PUT into a row of none", INDEX, ROW, 0, 0, PUT, 0, 0);
        dueFailure("GET of a row of none", INDEX, ROW, 0, 0, GET, 0, 0);
        for (int task : NO_TASK_BESIDE_0) {
            dueFailure("SEND " + task, INDEX, SEND, task, 0);
            dueFailure("OTHERS 0 " + task, INDEX, BOX, 1, 0, OTHERS, 0, task);
        }
    }

    private static void failsToStore() {
        dueFailure("COPY", STORE, BOX, 1, 0, ROW, 3, 0, COPY, 3, 0);
        dueFailure("COPY of none", STORE, BOX, 1, 0, ROW, 3, 0, COPY, 0, 0);
        dueFine("BOX of ints", BOX, 0, 0, ROW, 3, 0, COPY, 3, 0);
    }

    private static void failsToCast() {
        dueFailure("INTS of TASKS", CAST, BOX, 1, 0, INTS, 0, 0);
        dueFailure("OTHERS of ints", CAST, BOX, 0, 0, OTHERS, 0, 0);
        dueFailure("ASK of ints", CAST, BOX, 0, 0, ASK, 0, 0);
    }

    private static void failsBySize() {
        dueFailure("ROW -1", SIZE, ROW, -1, 0);
        dueFailure("ROW of the least", SIZE, ROW, MIN, 0);
        dueFine("ROW 0", ROW, 0, 0);
        dueOf("the ROW before stays", ran(PLAIN, ROW, 2, 0, ROW, -1, 0), 0, ROW_LENGTH, 2);
    }

    private static void failsByZero() {
        dueFailure("BY 0", ZERO, ADD, 1, 0, BY, 0, 0);
        dueFailure("0 BY 0", ZERO, BY, 0, 0);
        dueOf("the sum stays", ran(PLAIN, ADD, 7, 0, BY, 0, 0), 0, SUM, 7);
        dueFine("BY 1 and -1", ADD, 1, 0, BY, 1, 0, BY, -1, 0);
    }

    private static void orderOfTheBox() {
        dueFailure("INTS: CAST ahead of INDEX", CAST, BOX, 1, 0, INTS, 3, 0);
        dueFailure("OTHERS: CAST ahead of INDEX", CAST, BOX, 0, 0, OTHERS, -1, 0);
        dueFailure("ASK: CAST ahead of INDEX", CAST, BOX, 0, 0, ASK, 3, 0);
        dueFailure("INTS: NULL ahead of INDEX", NULL, INTS, 3, 0);
        dueFailure("OTHERS: NULL ahead of INDEX", NULL, OTHERS, 3, 0);
        dueFailure("ASK: NULL ahead of INDEX", NULL, ASK, -1, 0);
    }

    private static void orderOfOthers() {
        dueFailure("ahead of CAST", INDEX, BOX, 0, 0, OTHERS, 0, 1);
        dueFailure("ahead of NULL", INDEX, OTHERS, 0, 1);
        dueFailure("ahead of NULL, below 0", INDEX, OTHERS, 0, -1);
    }

    private static void orderOfAsk() {
        for (int place = 0; place < 3; place++) dueFailure("ASK " + place, NULL, BOX, 1, 0, ASK, place, 0);
        dueFailure("beside one", NULL, BOX, 1, 0, OTHERS, 1, 0, ASK, 2, 0);
        dueFailure("behind INDEX", INDEX, BOX, 1, 0, ASK, 3, 0);
    }

    private static void orderOfCopy() {
        dueFailure("ROW: NULL ahead of STORE", NULL, BOX, 1, 0, COPY, 0, 0);
        dueFailure("ROW: NULL ahead of INDEX", NULL, BOX, 0, 0, COPY, -1, 0);
        dueFailure("BOX: NULL ahead of INDEX", NULL, ROW, 1, 0, COPY, 2, 0);
        dueFailure("both", NULL, COPY, -1, 0);
        dueFailure("STORE ahead of INDEX, below 0", STORE, BOX, 1, 0, ROW, 1, 0, COPY, -1, 0);
        dueFailure("STORE ahead of INDEX, above", STORE, BOX, 1, 0, ROW, 1, 0, COPY, 4, 0);
    }

    // BACK

    private static void backIsACopy() {
        TaskTurns x = one(STUBBORN, ADD, 2, 0, ROW, 2, 0, PUT, 1, 0, MARK, 0, 0, ADD, 5, 0, PUT, 1, 0, BY, 0, 0);
        x.turn(4);
        for (int i = 1; i <= 3; i++) {
            x.turn(2);
            dueAt("changed, time " + i, x, false, 0, 7);
            x.turn(1);
            dueOf("back, time " + i, x, 0, SUM, 2, NEXT, 4, ROW_LENGTH, 2);
            dueAt("back, time " + i, x, false, 0, 2, BAD);
        }
        TaskTurns y = one(STUBBORN, MARK, 0, 0, ADD, 1, 0, MARK, 0, 0, BY, 0, 0);
        y.turn(4);
        dueOf("the latest MARK", y, 0, SUM, 1, NEXT, 3);
    }

    private static void backWithoutMark() {
        TaskTurns x = one(STUBBORN, ADD, 2, 0, ROW, 2, 0, BY, 0, 0);
        x.turn(3);
        dueOf("by itself", x, 0, STATE, READY, SUM, 0, ROW_LENGTH, NONE, NEXT, 0);
        TaskTurns y = ran(PLAIN, ADD, 2, 0, ROW, 2, 0, BY, 0, 0);
        y.again(0);
        dueOf("by hand", y, 0, STATE, READY, SUM, 0, ROW_LENGTH, NONE, NEXT, 0);
    }

    private static void whatStays() {
        TaskTurns x = one(STUBBORN, BOX, 0, 0, ADD, 5, 0, INTS, 1, 0, SEND, 0, 0, BY, 0, 0);
        x.turn(5);
        dueOf("LETTERS, BOX", x, 0, SUM, 0, LETTERS, 1, BOX_KIND, 0);
        dueAt("the ints of BOX", x, true, 0, 5, 0);
        due("the letter", x.letterAt(0, 0), 5);
        TaskTurns y = new TaskTurns();
        add(y, PLAIN, 9, ADD, 1, 0, ADD, 1, 0, ADD, 1, 0);
        add(y, PLAIN, 0, ADD, 1, 0);
        y.turn(2);
        y.stop(1);
        y.turn(1);
        y.again(1);
        dueOf("AGE", y, 1, STATE, READY, AGE, 2);
    }

    // A TURN

    private static void timeIsOver() {
        TaskTurns x = new TaskTurns();
        add(x, PLAIN, 9, WAIT, 1, 0, ADD, 1, 0);
        add(x, PLAIN, 0, ADD, 1, 0, ADD, 1, 0, ADD, 1, 0);
        x.turn(1);
        x.turn(1);
        dueOf("its one turn went by", x, 0, STATE, WAITS, NEXT, 1);
        dueOf("the other worked", x, 1, NEXT, 1);
        x.turn(1);
        dueOf("ready as the turn began, it worked first", x, 0, STATE, DONE, NEXT, 2);
        dueOf("the other did not", x, 1, NEXT, 1);
    }

    private static void emptyWithALetter() {
        TaskTurns x = new TaskTurns();
        add(x, PLAIN, 9, TAKE, 0, 0, ADD, 1, 0);
        add(x, PLAIN, 5, ADD, 1, 0, SEND, 0, 5, ADD, 1, 0);
        x.turn(2);
        dueOf("it has none", x, 0, STATE, EMPTY, LETTERS, 0);
        x.workers(2);
        due("the letter comes in this turn", x.turn(1), 1);
        dueOf("it was not ready as this turn began", x, 0, NEXT, 0, LETTERS, 1, AGE, 0);
        due("both", x.turn(1), 2);
        dueOf("ready as this turn began", x, 0, STATE, READY, NEXT, 1, SUM, 6, LETTERS, 0);
    }

    private static void workersTimes() {
        TaskTurns x = new TaskTurns();
        for (int i = 0; i < 5; i++) add(x, PLAIN, 0, ADD, 1, 0, ADD, 1, 0, ADD, 1, 0, ADD, 1, 0);
        due("one at first", x.turn(1), 1);
        for (int n = 1; n <= 4; n++) {
            x.workers(n);
            due(n + " workers", x.turn(1), n);
        }
        TaskTurns y = one(PLAIN, ADD, 1, 0, ADD, 1, 0);
        y.workers(4);
        due("more workers than tasks", y.turn(1), 1);
    }

    private static void noneTwice() {
        TaskTurns x = new TaskTurns();
        x.workers(3);
        add(x, PLAIN, 9, ADD, 1, 0, ADD, 1, 0, ADD, 1, 0, ADD, 1, 0);
        add(x, CAREFUL, 9, BY, 0, 0, BY, 0, 0, BY, 0, 0, BY, 0, 0);
        due("each once", x.turn(1), 2);
        dueOf("the one that did it", x, 0, NEXT, 1);
        dueOf("the one that failed in it", x, 1, STATE, READY, NEXT, 1);
        TaskTurns y = one(STUBBORN, BY, 0, 0);
        y.workers(4);
        due("one that went back", y.turn(1), 1);
    }

    private static void greatestRankAndAge() {
        TaskTurns x = new TaskTurns();
        add(x, PLAIN, 2, ADD, 1, 0, ADD, 1, 0);
        add(x, PLAIN, 3, ADD, 1, 0, ADD, 1, 0, ADD, 1, 0, ADD, 1, 0);
        add(x, PLAIN, 2, ADD, 1, 0, ADD, 1, 0);
        x.turn(1);
        dueOf("the greatest rank", x, 1, NEXT, 1);
        x.turn(1);
        dueOf("2 and 1 are like 3: the least number", x, 0, NEXT, 1);
        dueOf("the others had none", x, 1, NEXT, 1, AGE, 1);
        dueOf("the others had none", x, 2, NEXT, 0, AGE, 2);
        x.turn(1);
        dueOf("2 and 2 are like 3 and 1: the least number", x, 1, NEXT, 2, AGE, 0);
        x.turn(1);
        dueOf("2 and 3 are more than 3", x, 2, NEXT, 1, AGE, 0);
        TaskTurns y = new TaskTurns();
        for (int i = 0; i < 12; i++) add(y, PLAIN, 9, ADD, 1, 0, ADD, 1, 0);
        for (int i = 0; i < 12; i++) {
            y.turn(1);
            dueOf("like ones, by their numbers", y, i, NEXT, 1);
        }
    }

    private static void ageBecomes0() {
        TaskTurns x = new TaskTurns();
        add(x, PLAIN, 2, ADD, 1, 0, ADD, 1, 0, ADD, 1, 0);
        add(x, CAREFUL, 1, BY, 0, 0, ADD, 1, 0);
        x.turn(2);
        dueOf("it waited", x, 1, AGE, 2, NEXT, 0);
        x.turn(1);
        dueOf("also by an act that failed", x, 1, AGE, 0, NEXT, 1);
        dueOf("the other had none", x, 0, AGE, 1, NEXT, 2);
        TaskTurns y = new TaskTurns();
        add(y, PLAIN, 1, ADD, 1, 0, ADD, 1, 0);
        add(y, PLAIN, 0, TAKE, 0, 0);
        y.turn(2);
        dueOf("it waited", y, 1, AGE, 2);
        y.turn(1);
        dueOf("also by one that left it EMPTY", y, 1, STATE, EMPTY, AGE, 0);
    }

    private static void doneWithoutAnAct() {
        TaskTurns x = new TaskTurns();
        x.task(PLAIN, 9);
        add(x, PLAIN, 0, ADD, 1, 0);
        dueOf("not before its turn", x, 0, STATE, READY);
        due("no act", x.turn(1), 0);
        dueOf("done", x, 0, STATE, DONE, NEXT, 0);
        due("done", x.done(0), 0);
        due("no act counts", x.count(2), 0);
        dueOf("the worker was used for it", x, 1, NEXT, 0, AGE, 1);
        TaskTurns y = new TaskTurns();
        add(y, PLAIN, 1, ADD, 1, 0, ADD, 1, 0);
        y.task(PLAIN, 0);
        y.turn(2);
        dueOf("it waited", y, 1, STATE, READY, AGE, 2);
        y.turn(1);
        dueOf("it had its turn", y, 1, STATE, DONE, AGE, 0);
    }

    private static void doneBehindTheLast() {
        TaskTurns x = one(PLAIN, ADD, 1, 0, ADD, 1, 0);
        x.turn(1);
        dueOf("ahead of the last", x, 0, STATE, READY, NEXT, 1);
        due("none", x.done(0), NONE);
        x.turn(1);
        dueOf("at once behind the last", x, 0, STATE, DONE, NEXT, 2);
        due("the first", x.done(0), 0);
        dueOf("a WAIT that is the last", ranOnce(WAIT, 9, 0), 0, STATE, DONE, NEXT, 1);
        dueOf("a guarded WAIT that is the last", ranOnce(GUARD, 1, 0, WAIT, 9, 0), 0, STATE, DONE, NEXT, 2);
        TaskTurns y = one(CAREFUL, BY, 0, 0);
        y.turn(1);
        dueOf("a failure that is the last", y, 0, STATE, DONE, NEXT, 1);
        dueOf("an EMPTY one is not behind it", ranOnce(TAKE, 0, 0), 0, STATE, EMPTY, NEXT, 0);
        dueOf("a FAILED one is not behind it", ranOnce(BY, 0, 0), 0, STATE, FAILED, NEXT, 0);
    }

    /** A new object whose one task of these acts had one turn. */
    private static TaskTurns ranOnce(int... acts) {
        TaskTurns x = one(PLAIN, acts);
        x.turn(1);
        return x;
    }

    private static void whoAges() {
        TaskTurns x = inEveryState();
        int[] before = new int[6];
        for (int i = 0; i < 6; i++) before[i] = x.of(i, AGE);
        add(x, PLAIN, 9, ADD, 1, 0, ADD, 1, 0, ADD, 1, 0);
        x.workers(1);
        x.turn(2);
        dueOf("READY", x, 0, STATE, READY, AGE, before[0] + 2);
        for (int i = 1; i < 6; i++) dueOf("no other", x, i, STATE, i, AGE, before[i]);
        dueOf("the one that worked", x, 6, STATE, READY, AGE, 0);
        TaskTurns y = new TaskTurns();
        add(y, PLAIN, 0, WAIT, 1, 0, ADD, 1, 0);
        add(y, PLAIN, 0, TAKE, 0, 0, ADD, 1, 0);
        y.workers(2);
        y.turn(1);
        y.letter(1, 1);
        add(y, PLAIN, 9, ADD, 1, 0, ADD, 1, 0, ADD, 1, 0);
        y.workers(1);
        y.turn(2);
        dueOf("one that had a letter as both turns began", y, 1, STATE, READY, NEXT, 0, AGE, 2);
        dueOf("one whose time was over as the second began", y, 0, STATE, READY, NEXT, 1, AGE, 1);
    }

    // REFUSALS

    private static void refusalsChangeNothing() {
        // New objects each time: to look at all of them takes some 300 of the 512 calls that are promised.
        for (int steps = 0; steps <= 5; steps++) {
            TaskTurns asIs = manyThings();
            TaskTurns refused = manyThings();
            refuseAll(refused);
            for (int step = 0; step < steps; step++) goOn(step, asIs, refused);
            dueAlike("behind the refusals and " + steps + " steps", asIs, refused);
        }
    }

    /** One step of two objects: what a refusal has changed out of sight may come to light by it. */
    private static void goOn(int step, TaskTurns asIs, TaskTurns refused) {
        int[] turns = {0, 1, 3, 0, 50};
        if (turns[step] > 0) due("turn(" + turns[step] + ")", refused.turn(turns[step]), asIs.turn(turns[step]));
        if (step == 0) due("workers(2)", refused.workers(2), asIs.workers(2));
        for (int task = 0; task < 12; task++) {
            if (step == 0) due("act of task " + task, refused.act(task, ADD, 1, 0), asIs.act(task, ADD, 1, 0));
            if (step == 3) due("again(" + task + ")", refused.again(task), asIs.again(task));
            if (step == 3) due("letter(" + task + ", 3)", refused.letter(task, 3), asIs.letter(task, 3));
        }
    }

    /** Twelve tasks: 0 WAITS, 1 EMPTY, 2 DONE, 3 FAILED, 4 STOPPED, 5 full of acts and letters, 6 did one, 7 none. */
    private static TaskTurns manyThings() {
        TaskTurns x = new TaskTurns();
        add(x, PLAIN, 9, WAIT, 12, 0, ADD, 1, 0);
        add(x, PLAIN, 9, TAKE, 0, 0, ADD, 1, 0);
        add(x, PLAIN, 9);
        add(x, PLAIN, 9, ROW, 2, 0, ADD, 3, 0, PUT, 0, 0, MARK, 0, 0, ADD, 4, 0, PUT, 1, 0, BY, 0, 0);
        x.workers(4);
        x.turn(7);
        add(x, PROUD, 9, ADD, 5, 0, MARK, 0, 0, BOX, 1, 0, OTHERS, 0, 4, ADD, 1, 0, BY, 0, 0);
        x.turn(4);
        x.stop(4);
        add(x, PLAIN, 0);
        for (int i = 0; i < 16; i++) x.act(5, i % 2 == 0 ? ADD : SEND, 5, 0);
        for (int i = 0; i < 6; i++) x.letter(5, i);
        add(x, STUBBORN, 9, BOX, 0, 0, ADD, 1, 0, INTS, 0, 0, BY, 0, 0, ADD, 1, 0);
        x.workers(1);
        x.turn(1);
        for (int i = 7; i < 12; i++) x.task(i % 5, i % 4);
        x.act(7, WAIT, 2, 0);
        x.workers(3);
        return x;
    }

    private static void refuseAll(TaskTurns x) {
        int[] noTask = {-1, 12, MIN, MAX};
        for (int task : noTask) {
            due("task(" + task + ", 0)", x.task(task, 0), BAD);
            due("task(0, " + task + ")", x.task(0, task), BAD);
            due("act of no task", x.act(task, ADD, 1, 1), BAD);
            due("workers(" + task + ")", x.workers(task), BAD);
            due("turn", x.turn(task == 12 ? 51 : task), BAD);
            due("letter to no task", x.letter(task, 1), BAD);
            due("stop no task", x.stop(task), BAD);
            due("again no task", x.again(task), BAD);
            due("of no task", x.of(task, 0), BAD);
            due("at no task", x.at(task, true, 0), BAD);
            due("letterAt no task", x.letterAt(task, 0), BAD);
            due("count(" + task + ")", x.count(task), BAD);
            due("done(" + task + ")", x.done(task), NONE);
        }
        due("workers(0)", x.workers(0), BAD);
        due("turn(0)", x.turn(0), BAD);
        due("a thirteenth task", x.task(0, 0), FULL);
        due("no such act", x.act(7, -1, 0, 0), BAD);
        due("no such act", x.act(7, 16, 0, 0), BAD);
        due("a long row", x.act(7, ROW, 41, 0), BAD);
        int[] notMore = {0, 1, 2, 3, 4, 6};
        for (int task : notMore) due("act of task " + task, x.act(task, ADD, 1, 0), NO);
        due("a seventeenth act", x.act(5, ADD, 1, 0), FULL);
        for (int task = 2; task <= 4; task++) {
            due("letter to task " + task, x.letter(task, 1), NO);
            due("stop task " + task, x.stop(task), NO);
        }
        due("a seventh letter", x.letter(5, 1), FULL);
        int[] notAgain = {0, 1, 2, 5, 6, 7};
        for (int task : notAgain) due("again " + task, x.again(task), NO);
    }

    private static void dueAlike(String about, TaskTurns one, TaskTurns other) {
        for (int what = 0; what <= 6; what++) due(about + ": count(" + what + ")", other.count(what), one.count(what));
        for (int k = 0; k < 12; k++) due(about + ": done(" + k + ")", other.done(k), one.done(k));
        for (int t = 0; t < 12; t++) {
            String of = about + ", task " + t + ": ";
            for (int what = 0; what <= 10; what++) due(of + "of " + what, other.of(t, what), one.of(t, what));
            for (int i = 0; i < 3; i++) {
                due(of + "row " + i, other.at(t, false, i), one.at(t, false, i));
                due(of + "box " + i, other.at(t, true, i), one.at(t, true, i));
            }
            for (int i = 0; i < 6; i++) due(of + "letter " + i, other.letterAt(t, i), one.letterAt(t, i));
        }
    }

    private static void firstTold() {
        TaskTurns x = manyThings();
        due("task: BAD ahead of FULL", x.task(5, 0), BAD);
        due("task: BAD ahead of FULL", x.task(0, 10), BAD);
        due("act: BAD ahead of NO, no such act", x.act(4, 16, 0, 0), BAD);
        due("act: BAD ahead of NO, a long row", x.act(3, ROW, 41, 0), BAD);
        due("act: BAD ahead of FULL", x.act(5, -1, 0, 0), BAD);
        due("act: BAD ahead of FULL, a long row", x.act(5, ROW, 41, 0), BAD);
        x.stop(5);
        due("act: NO ahead of FULL", x.act(5, ADD, 1, 0), NO);
        due("letter: NO ahead of FULL", x.letter(5, 1), NO);
        x.again(5);
        due("act: FULL alone", x.act(5, ADD, 1, 0), FULL);
        due("letter: FULL alone", x.letter(5, 1), FULL);
    }

    // Promises 1 to 5

    private static void newObject() {
        TaskTurns x = new TaskTurns();
        for (int what = 0; what <= 6; what++) due("count(" + what + ")", x.count(what), 0);
        due("there is no task 0", x.of(0, STATE), BAD);
        due("one worker", x.workers(2), 1);
        TaskTurns y = new TaskTurns();
        due("a second object has none of the first", y.workers(1), 1);
        due("nobody works", y.turn(50), 0);
        due("in one turn", y.count(1), 1);
    }

    private static void task() {
        TaskTurns x = new TaskTurns();
        int[] noSort = {-1, 5, MIN, MAX};
        for (int sort : noSort) due("task(" + sort + ", 0)", x.task(sort, 0), BAD);
        due("none was made", x.count(0), 0);
        for (int sort = PLAIN; sort <= PROUD; sort++) due("task(" + sort + ", 0)", x.task(sort, 0), sort);
        dueOf("new", x, 4, STATE, READY, NEXT, 0);
        due("without acts", x.act(4, ADD, 1, 0), 0);
        for (int i = 5; i < 12; i++) due("task " + i, x.task(PLAIN, 0), i);
        due("a thirteenth", x.task(PLAIN, 0), FULL);
        TaskTurns y = new TaskTurns();
        for (int i = 0; i < 12; i++) y.task(PLAIN, 0);
        y.workers(4);
        for (int i = 0; i < 3; i++) y.turn(1);
        due("DONE ones are tasks, too", y.task(PLAIN, 0), FULL);
    }

    private static void actKinds() {
        TaskTurns x = one(PLAIN);
        int[] noKind = {-1, 16, MIN, MAX};
        for (int kind : noKind) due("act(0, " + kind + ", 0, 0)", x.act(0, kind, 0, 0), BAD);
        for (int task : NO_TASK_BESIDE_0) due("act(" + task + ", 0, 0, 0)", x.act(task, ADD, 0, 0), BAD);
        for (int kind = ADD; kind <= COPY; kind++) due("act(0, " + kind + ", 0, 0)", x.act(0, kind, 0, 0), kind);
    }

    private static void actOfLongRow() {
        TaskTurns x = one(PLAIN);
        due("ROW 41", x.act(0, ROW, 41, 0), BAD);
        due("ROW of the most", x.act(0, ROW, MAX, 0), BAD);
        due("ROW 40", x.act(0, ROW, 40, 41), 0);
        due("ROW 0", x.act(0, ROW, 0, 0), 1);
        due("ROW below 0 is an act that will fail", x.act(0, ROW, MIN, 0), 2);
        int number = 3;
        for (int kind = ADD; kind <= COPY - 3; kind++) {
            if (kind != ROW) due("kind " + kind + " with 41", x.act(0, kind, 41, 41), number++);
        }
    }

    private static void actIsRefused() {
        TaskTurns x = inEveryState();
        for (int task = 0; task < 6; task++) due("act of task " + task, x.act(task, ADD, 1, 0), NO);
        x.again(5);
        due("READY again, did none", x.act(5, ADD, 1, 0), 1);
        x.again(4);
        dueOf("READY again at 0", x, 4, STATE, READY, NEXT, 0);
        due("READY again, did one", x.act(4, ADD, 1, 0), NO);
        TaskTurns y = one(STUBBORN, BY, 0, 0);
        y.turn(1);
        dueOf("BACK at 0", y, 0, STATE, READY, NEXT, 0);
        due("BACK at 0, did one", y.act(0, ADD, 1, 0), NO);
        TaskTurns z = one(PLAIN);
        for (int i = 0; i < 16; i++) z.act(0, ADD, 1, 0);
        due("sixteen", z.act(0, ADD, 1, 0), FULL);
        TaskTurns w = new TaskTurns();
        add(w, PLAIN, 9, ADD, 1, 0);
        add(w, PLAIN, 0, ADD, 1, 0);
        w.turn(1);
        due("others did theirs, it did none", w.act(1, ADD, 1, 0), 1);
    }

    private static void workers() {
        TaskTurns x = new TaskTurns();
        int[] wrongNumbers = {0, 5, -1, MIN, MAX};
        for (int n : wrongNumbers) due("workers(" + n + ")", x.workers(n), BAD);
        due("workers(4)", x.workers(4), 1);
        due("workers(1)", x.workers(1), 4);
        due("workers(2)", x.workers(2), 1);
        due("workers(2)", x.workers(2), 2);
        due("workers(3)", x.workers(3), 2);
    }

    private static void soManyTurns() {
        TaskTurns x = new TaskTurns();
        for (int i = 0; i < 4; i++) {
            add(x, PLAIN, 0);
            for (int k = 0; k < 16; k++) x.act(i, ADD, 1, 0);
        }
        int[] wrongNumbers = {0, 51, -1, MIN, MAX};
        for (int n : wrongNumbers) due("turn(" + n + ")", x.turn(n), BAD);
        due("none done", x.count(1), 0);
        due("turn(1)", x.turn(1), 1);
        due("turn(50)", x.turn(50), 50);
        due("all", x.count(1), 51);
    }

    private static void upToAnIdleOne() {
        TaskTurns x = one(PLAIN, ADD, 1, 0, WAIT, 2, 0, ADD, 1, 0);
        due("two acts", x.turn(50), 2);
        due("the one without counts", x.count(1), 3);
        due("none", x.turn(50), 0);
        due("one more", x.count(1), 4);
        due("one act", x.turn(50), 1);
        due("the one without counts", x.count(1), 6);
        due("nobody is left", x.turn(50), 0);
        due("one more", x.count(1), 7);
        TaskTurns y = one(PLAIN, TAKE, 0, 0);
        due("one that is left EMPTY did its act", y.turn(50), 1);
        due("so one more turn came", y.count(1), 2);
        TaskTurns z = new TaskTurns();
        z.task(PLAIN, 9);
        add(z, PLAIN, 0, ADD, 1, 0);
        due("one DONE without an act did none", z.turn(50), 0);
        due("so none more came", z.count(1), 1);
    }

    private static void actsOfATurn() {
        TaskTurns x = new TaskTurns();
        add(x, PLAIN, 9, GUARD, 3, 0, ADD, 1, 0, ADD, 1, 0, BY, 0, 0);
        add(x, PLAIN, 8, GUARD, 0, 0);
        add(x, PLAIN, 7, TAKE, 0, 0);
        add(x, PLAIN, 6, BY, 0, 0);
        x.workers(4);
        due("turn(1)", x.turn(1), 7);
        due("count(2)", x.count(2), 7);
        due("turn(0)", x.turn(0), BAD);
        due("turn(51)", x.turn(51), BAD);
    }

    // Promises 6 to 8

    private static void letterByHand() {
        TaskTurns x = one(PLAIN, TAKE, 0, 0, ADD, 1, 0);
        for (int i = 1; i <= 6; i++) due("letter " + i, x.letter(0, MIN + i), i);
        x.turn(1);
        due("one went", x.letter(0, MAX), 6);
        due("the youngest", x.letterAt(0, 5), MAX);
        TaskTurns y = inEveryState();
        for (int task = READY; task <= EMPTY; task++) due("letter to task " + task, y.letter(task, 0), 1);
    }

    private static void letterIsRefused() {
        TaskTurns x = inEveryState();
        int[] noTask = {-1, 6, 12, MIN, MAX};
        for (int task : noTask) due("letter(" + task + ", 0)", x.letter(task, 0), BAD);
        for (int task = DONE; task <= STOPPED; task++) due("letter to task " + task, x.letter(task, 0), NO);
        for (int task = READY; task <= EMPTY; task++) {
            for (int i = 0; i < 6; i++) x.letter(task, 0);
            due("a seventh to task " + task, x.letter(task, 0), FULL);
        }
        due("by hand none is LOST", x.count(3), 0);
    }

    private static void stop() {
        TaskTurns x = inEveryState();
        int[] noTask = {-1, 6, 12, MIN, MAX};
        for (int task : noTask) due("stop(" + task + ")", x.stop(task), BAD);
        for (int task = DONE; task <= STOPPED; task++) {
            due("stop(" + task + ")", x.stop(task), NO);
            dueOf("it stays", x, task, STATE, task);
        }
        for (int task = READY; task <= EMPTY; task++) {
            due("stop(" + task + ")", x.stop(task), 1);
            dueOf("stopped", x, task, STATE, STOPPED);
        }
        due("nobody works", x.turn(50), 0);
    }

    private static void again() {
        TaskTurns x = inEveryState();
        int[] noTask = {-1, 6, 12, MIN, MAX};
        for (int task : noTask) due("again(" + task + ")", x.again(task), BAD);
        for (int task = READY; task <= DONE; task++) {
            due("again(" + task + ")", x.again(task), NO);
            dueOf("it stays", x, task, STATE, task);
        }
        for (int task = FAILED; task <= STOPPED; task++) {
            due("again(" + task + ")", x.again(task), 1);
            dueOf("READY", x, task, STATE, READY, NEXT, 0);
            due("again(" + task + ")", x.again(task), NO);
        }
        TaskTurns y = ran(PLAIN, ADD, 1, 0, MARK, 0, 0, ADD, 1, 0, BY, 0, 0);
        due("again", y.again(0), 1);
        dueOf("BACK at its MARK", y, 0, STATE, READY, SUM, 1, NEXT, 2);
        due("it goes on from there", y.turn(50), 2);
        TaskTurns z = one(PLAIN, WAIT, 9, 0, ADD, 1, 0);
        z.turn(1);
        z.stop(0);
        due("one that waited", z.again(0), 1);
        due("is READY at once", z.turn(1), 1);
    }

    // Promises 9 to 13

    private static void ofTheTask() {
        TaskTurns x = one(PLAIN, ADD, BAD, 0, ADD, 1, 0);
        for (int task : NO_TASK_BESIDE_0) due("of(" + task + ", 0)", x.of(task, STATE), BAD);
        int[] noWhat = {-1, 11, MIN, MAX};
        for (int what : noWhat) due("of(0, " + what + ")", x.of(0, what), BAD);
        for (int i = 0; i < 6; i++) x.letter(0, 9);
        dueOf("at first", x, 0, STATE, READY, SUM, 0, NEXT, 0, LETTERS, 6, AGE, 0);
        add(x, PLAIN, 9, ADD, 1, 0);
        x.turn(1);
        dueOf("it had none", x, 0, NEXT, 0, AGE, 1);
        x.turn(1);
        dueOf("a SUM like BAD", x, 0, SUM, BAD, NEXT, 1, LETTERS, 6, AGE, 0);
    }

    private static void ofFailures() {
        TaskTurns x = one(CAREFUL, ADD, 1, 0, BY, 0, 0, PUT, 0, 0, ADD, 1, 0);
        x.turn(1);
        dueOf("none", x, 0, FAILURES, 0, LATEST, 0);
        x.turn(1);
        dueOf("one", x, 0, FAILURES, 1, LATEST, ZERO);
        x.turn(1);
        dueOf("two", x, 0, FAILURES, 2, LATEST, NULL);
        x.turn(1);
        dueOf("none more", x, 0, FAILURES, 2, LATEST, NULL);
        TaskTurns y = ran(PLAIN, BY, 0, 0);
        y.again(0);
        dueOf("they stay when it is READY again", y, 0, FAILURES, 1, LATEST, ZERO);
    }

    private static void ofTheRow() {
        dueOf("NOTHING", one(PLAIN), 0, ROW_LENGTH, NONE);
        dueOf("none", ran(PLAIN, ROW, 0, 0), 0, ROW_LENGTH, 0);
        dueOf("one", ran(PLAIN, ROW, 1, 0), 0, ROW_LENGTH, 1);
        dueOf("the most", ran(PLAIN, ROW, 40, 0), 0, ROW_LENGTH, 40);
    }

    private static void ofTheBox() {
        dueOf("NOTHING", one(PLAIN), 0, BOX_KIND, NONE);
        dueOf("ints", ran(PLAIN, BOX, 0, 0), 0, BOX_KIND, 0);
        dueOf("TASKS", ran(PLAIN, BOX, 1, 0), 0, BOX_KIND, 1);
        dueOf("NOTHING again", ran(PLAIN, BOX, 1, 0, BOX, 2, 0), 0, BOX_KIND, NONE);
    }

    private static void ofBacks() {
        int[] acts = {ADD, 1, 0, BY, 0, 0, ADD, 1, 0};
        dueOf("CAREFUL", ran(CAREFUL, acts), 0, BACKS, 0);
        dueOf("STUBBORN", ran(STUBBORN, acts), 0, BACKS, 3);
        dueOf("PROUD", ran(PROUD, acts), 0, BACKS, 5);
        TaskTurns x = ran(PLAIN, acts);
        x.again(0);
        dueOf("by hand does not count", x, 0, BACKS, 0);
        TaskTurns y = one(STUBBORN, acts);
        y.turn(2);
        y.stop(0);
        y.again(0);
        dueOf("by hand does not count", y, 0, BACKS, 1);
        y.turn(50);
        dueOf("nor is it one of the three", y, 0, STATE, DONE, BACKS, 3, FAILURES, 4);
    }

    private static void ofTheFailedAct() {
        dueOf("none", ran(PLAIN, ADD, 1, 0), 0, FAILED_ACT, NONE);
        dueOf("the first", ran(PLAIN, BY, 0, 0), 0, FAILED_ACT, 0);
        dueOf("the latest", ran(CAREFUL, BY, 0, 0, ADD, 1, 0, BY, 0, 0, ADD, 1, 0), 0, FAILED_ACT, 2);
        dueOf("a guarded one", ran(PLAIN, GUARD, 2, 0, ADD, 1, 0, BY, 0, 0), 0, FAILED_ACT, 2);
        TaskTurns x = one(STUBBORN, ADD, 1, 0, BY, 0, 0);
        x.turn(2);
        dueOf("of one that went BACK", x, 0, FAILED_ACT, 1, NEXT, 0);
        TaskTurns y = one(PLAIN);
        for (int i = 0; i < 15; i++) y.act(0, ADD, 1, 0);
        y.act(0, BY, 0, 0);
        y.turn(50);
        dueOf("the last of sixteen", y, 0, FAILED_ACT, 15, NEXT, 15);
        int[] noWhat = {-1, 11, MIN, MAX};
        for (int what : noWhat) due("of(0, " + what + ")", y.of(0, what), BAD);
        dueOf("it may be BAD", ran(PLAIN, ADD, BAD, 0), 0, SUM, BAD);
    }

    private static void atEnds() {
        TaskTurns x = ran(PLAIN, ADD, BAD, 0, ROW, 40, 0, PUT, 0, 0, ADD, -7, 0, PUT, 39, 0, BOX, 0, 0, INTS, 2, 0,
            ADD, 1, 0, INTS, 0, 0);
        due("the first of the row, which is like BAD", x.at(0, false, 0), -1);
        due("the second of the row", x.at(0, false, 1), 0);
        due("the last of the row", x.at(0, false, 39), -8);
        due("behind the row", x.at(0, false, 40), BAD);
        due("the first of the box", x.at(0, true, 0), -7);
        due("the last of the box", x.at(0, true, 2), -8);
        due("behind the box", x.at(0, true, 3), BAD);
    }

    private static void atTasks() {
        TaskTurns x = new TaskTurns();
        for (int i = 0; i < 12; i++) x.task(PLAIN, i == 0 ? 9 : 0);
        x.act(0, BOX, 1, 0);
        x.act(0, OTHERS, 0, 0);
        x.act(0, OTHERS, 2, 11);
        x.turn(3);
        dueAt("the first task, none, the last task", x, true, 0, NONE, 11, BAD);
    }

    private static void atIsRefused() {
        TaskTurns x = one(PLAIN, ROW, 3, 0, BOX, 0, 0);
        due("NOTHING is its row", x.at(0, false, 0), BAD);
        due("NOTHING is its box", x.at(0, true, 0), BAD);
        x.turn(50);
        int[] noPlace = {-1, 3, 39, 40, MIN, MAX};
        for (int i : noPlace) {
            due("at(0, false, " + i + ")", x.at(0, false, i), BAD);
            due("at(0, true, " + i + ")", x.at(0, true, i), BAD);
        }
        for (int task : NO_TASK_BESIDE_0) {
            due("at(" + task + ", false, 0)", x.at(task, false, 0), BAD);
            due("at(" + task + ", true, 0)", x.at(task, true, 0), BAD);
        }
        dueAt("a row of none", ran(PLAIN, ROW, 0, 0), false, BAD);
        int[] noPlaceOfTasks = {-1, 3, MIN, MAX};
        TaskTurns y = ran(PLAIN, BOX, 1, 0);
        for (int i : noPlaceOfTasks) due("a row of TASKS, place " + i, y.at(0, true, i), BAD);
        dueAt("NOTHING again", ran(PLAIN, BOX, 1, 0, BOX, 2, 0), true, BAD, BAD, BAD);
    }

    private static void letterAt() {
        TaskTurns x = one(PLAIN, TAKE, 0, 0, ADD, 1, 0);
        due("none yet", x.letterAt(0, 0), BAD);
        x.letter(0, BAD);
        due("a letter like BAD", x.letterAt(0, 0), -1);
        due("behind the only one", x.letterAt(0, 1), BAD);
        for (int i = 1; i < 6; i++) x.letter(0, 10 + i);
        for (int i = 1; i < 6; i++) due("letterAt(0, " + i + ")", x.letterAt(0, i), 10 + i);
        int[] noPlace = {-1, 6, MIN, MAX};
        for (int i : noPlace) due("letterAt(0, " + i + ")", x.letterAt(0, i), BAD);
        for (int task : NO_TASK_BESIDE_0) due("letterAt(" + task + ", 0)", x.letterAt(task, 0), BAD);
        x.turn(1);
        due("the eldest went", x.letterAt(0, 0), 11);
        due("the youngest", x.letterAt(0, 4), 15);
        due("five are left", x.letterAt(0, 5), BAD);
    }

    private static void countTasks() {
        TaskTurns x = new TaskTurns();
        due("no TASKS", x.count(0), 0);
        x.task(5, 0);
        due("a refused one is none", x.count(0), 0);
        for (int i = 1; i <= 12; i++) {
            x.task(PLAIN, 0);
            due("TASKS", x.count(0), i);
        }
        x.task(PLAIN, 0);
        due("a thirteenth is none", x.count(0), 12);
        due("no TURNS", x.count(1), 0);
        x.turn(1);
        x.turn(51);
        due("one without an ACT, none of the refused", x.count(1), 1);
        due("DONE ones are TASKS, too", x.count(0), 12);
    }

    private static void countActs() {
        due("one that FAILED", ran(PLAIN, BY, 0, 0).count(2), 1);
        due("an EMPTY one", ran(PLAIN, TAKE, 0, 0).count(2), 1);
        due("guarded ones", ran(PLAIN, GUARD, 2, 0, ADD, 1, 0, ADD, 1, 0).count(2), 3);
        due("a guarded one that FAILED", ran(PLAIN, GUARD, 2, 0, BY, 0, 0, ADD, 1, 0).count(2), 2);
        due("a GUARD of none", ran(PLAIN, GUARD, 0, 0).count(2), 1);
        due("a WAIT for nothing", ran(PLAIN, WAIT, 0, 0).count(2), 1);
        due("none", ran(PLAIN).count(2), 0);
        TaskTurns x = ran(PLAIN, TAKE, 0, 0);
        x.letter(0, 1);
        x.turn(50);
        due("EMPTY first, then TAKE", x.count(2), 2);
    }

    private static void countLost() {
        TaskTurns x = new TaskTurns();
        add(x, PLAIN, 0, SEND, 1, 0, SEND, 1, 0, GUARD, 1, 0, BY, 0, 0);
        x.task(PLAIN, 0);
        add(x, CAREFUL, 0, BY, 0, 0, BY, 0, 0);
        x.stop(1);
        x.turn(50);
        due("LOST", x.count(3), 2);
        due("LEFT", x.count(4), 1);
        due("FAILURES of all together", x.count(5), 3);
        x.letter(1, 5);
        due("refused by hand is not LOST", x.count(3), 2);
    }

    private static void countGoingOn() {
        TaskTurns x = inEveryState();
        due("READY, WAITS, EMPTY", x.count(6), 3);
        due("of six", x.count(0), 6);
        for (int task = READY; task <= EMPTY; task++) {
            x.stop(task);
            due("stopped " + task, x.count(6), 2 - task);
        }
        x.again(4);
        due("READY again", x.count(6), 1);
        int[] noWhat = {-1, 7, MIN, MAX};
        for (int what : noWhat) due("count(" + what + ")", x.count(what), BAD);
    }

    private static void done() {
        TaskTurns x = new TaskTurns();
        due("none yet", x.done(0), NONE);
        for (int i = 0; i < 12; i++) add(x, PLAIN, i % 3, ADD, 1, 0);
        x.turn(1);
        due("the first", x.done(0), 2);
        due("no second yet", x.done(1), NONE);
        x.workers(4);
        x.turn(50);
        int[] order = {2, 5, 8, 11, 1, 4, 7, 10, 0, 3, 6, 9};
        for (int k = 0; k < 12; k++) due("done(" + k + ")", x.done(k), order[k]);
        int[] none = {-1, 12, MIN, MAX};
        for (int k : none) due("done(" + k + ")", x.done(k), NONE);
        TaskTurns y = inEveryState();
        due("the only one of six", y.done(0), 3);
        due("FAILED, STOPPED ones are not", y.done(1), NONE);
    }
}
