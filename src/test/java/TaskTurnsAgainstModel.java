import java.util.ArrayList;
import java.util.List;
import java.util.Random;

// Made-up runs of calls, each answer beside that of a model whose acts fail in the machine's own way:
// by the exceptions of Java itself, through try and finally. The seeds are fixed, so every run is the same.
public final class TaskTurnsAgainstModel {
    private static final int RUNS = 6000, CALLS = 512, MOST_AT_ONCE = 15;
    private static int wrong = 0;

    public static void main(String[] args) {
        long answers = 0;
        int[] failuresSeen = new int[11];
        for (int run = 0; run < RUNS && wrong < 20; run++) {
            Run r = new Run(run);
            r.go();
            answers += r.calls;
            for (Model.Task t : r.model.tasks) failuresSeen[t.latest]++;
        }
        for (int f = 1; f <= 10; f++) {
            if (failuresSeen[f] == 0) {
                wrong++;
                System.out.println("no run came to failure " + f);
            }
        }
        System.out.println(answers + " answers beside the model's, " + wrong + " wrong");
        if (wrong != 0) System.exit(1);
    }

    /** One run on a new object: mostly tasks and acts at first, then turns among all other calls. */
    private static final class Run {
        final int number;
        final Random random;
        final TaskTurns x = new TaskTurns();
        final Model model = new Model();
        int calls = 0;

        Run(int number) {
            this.number = number;
            this.random = new Random(number);
        }

        void go() {
            int tasks = 1 + random.nextInt(12);
            for (int i = 0; i < tasks; i++) {
                newTask();
                int acts = random.nextInt(17);
                for (int k = 0; k < acts; k++) newAct(i);
            }
            // What an object answers behind its last promised call is free.
            while (calls + MOST_AT_ONCE <= CALLS && wrong < 20) anyCall();
        }

        void due(String call, int got, int want) {
            calls++;
            if (got != want) {
                wrong++;
                System.out.println("run " + number + ", call " + calls + ": " + call + " answered " + got + ", due is " + want);
            }
        }

        int number(int most) {
            int dice = random.nextInt(40);
            if (dice == 0) return random.nextInt();
            if (dice == 1) return -1;
            if (dice == 2) return most;
            if (dice == 3) return random.nextBoolean() ? Integer.MAX_VALUE : Integer.MIN_VALUE;
            return random.nextInt(most);
        }

        int aTask() {
            return number(random.nextInt(6) == 0 ? 12 : Math.max(1, model.tasks.size()));
        }

        void newTask() {
            int sort = number(5), rank = number(10);
            due("task(" + sort + ", " + rank + ")", x.task(sort, rank), model.task(sort, rank));
        }

        void newAct(int task) {
            int kind = number(16);
            int a = switch (kind) {
                case 0, 14 -> random.nextInt(21) - 10;
                case 1 -> random.nextInt(5) - 1;
                case 2 -> random.nextInt(8) == 0 ? number(41) : random.nextInt(6) - 1;
                case 3, 4, 11, 12, 13, 15 -> random.nextInt(8) == 0 ? number(41) : random.nextInt(5) - 1;
                case 6 -> random.nextInt(3) == 0 ? task : aTask();
                case 7 -> random.nextInt(6) - 1;
                case 9 -> random.nextInt(8) - 1;
                case 10 -> random.nextInt(3);
                default -> number(20);
            };
            if (random.nextInt(30) == 0) a = number(50);
            int b = kind == 12 ? aTask() : number(9);
            due("act(" + task + ", " + kind + ", " + a + ", " + b + ")", x.act(task, kind, a, b), model.act(task, kind, a, b));
        }

        void anyCall() {
            int task = aTask();
            switch (random.nextInt(16)) {
                case 0 -> newTask();
                case 1 -> newAct(task);
                case 2 -> {
                    int n = random.nextInt(6);
                    due("workers(" + n + ")", x.workers(n), model.workers(n));
                }
                case 3, 4, 5 -> {
                    int n = random.nextInt(4) == 0 ? number(51) : 1 + random.nextInt(3);
                    due("turn(" + n + ")", x.turn(n), model.turn(n));
                    lookAt(task);
                }
                case 6, 7 -> {
                    int v = number(9);
                    due("letter(" + task + ", " + v + ")", x.letter(task, v), model.letter(task, v));
                }
                case 8 -> due("stop(" + task + ")", x.stop(task), model.stop(task));
                case 9, 10 -> {
                    due("again(" + task + ")", x.again(task), model.again(task));
                    lookAt(task);
                }
                case 11 -> lookAt(task);
                case 12 -> {
                    boolean box = random.nextBoolean();
                    int i = number(40);
                    due("at(" + task + ", " + box + ", " + i + ")", x.at(task, box, i), model.at(task, box, i));
                }
                case 13 -> {
                    int i = number(7);
                    due("letterAt(" + task + ", " + i + ")", x.letterAt(task, i), model.letterAt(task, i));
                }
                case 14 -> {
                    int what = number(12);
                    due("of(" + task + ", " + what + ")", x.of(task, what), model.of(task, what));
                }
                default -> {
                    int k = number(12);
                    due("done(" + k + ")", x.done(k), model.done(k));
                    int what = number(8);
                    due("count(" + what + ")", x.count(what), model.count(what));
                }
            }
        }

        void lookAt(int task) {
            for (int what = 0; what <= 10; what++) {
                due("of(" + task + ", " + what + ")", x.of(task, what), model.of(task, what));
            }
            int i = random.nextInt(4);
            due("at(" + task + ", false, " + i + ")", x.at(task, false, i), model.at(task, false, i));
            due("at(" + task + ", true, " + i + ")", x.at(task, true, i), model.at(task, true, i));
            due("letterAt(" + task + ", " + i + ")", x.letterAt(task, i), model.letterAt(task, i));
        }
    }

    private static final class Told extends RuntimeException {
        private static final long serialVersionUID = 1L;
        final int failure;

        Told(int failure) {
            this.failure = failure;
        }
    }

    /** The document again, in all of Java. */
    private static final class Model {
        static final int BAD = -1, NO = -2, FULL = -3, NONE = -4;

        static final class Task {
            int number, sort, rank, age, next, sum, state, failures, latest, backs;
            int failedAct = NONE;
            long readyIn;
            boolean worked, acted;
            int[] row;
            Object box;
            final List<int[]> acts = new ArrayList<>();
            final List<Integer> letters = new ArrayList<>();
            int markSum, markNext;
            int[] markRow;

            boolean over() {
                return state >= 3;
            }

            void back() {
                sum = markSum;
                next = markNext;
                row = markRow == null ? null : markRow.clone();
            }
        }

        final List<Task> tasks = new ArrayList<>();
        final List<Integer> done = new ArrayList<>();
        int workers = 1, turns, acts, lost, left, failures;

        boolean no(int task) {
            return task < 0 || task >= tasks.size();
        }

        int task(int sort, int rank) {
            if (sort < 0 || sort > 4 || rank < 0 || rank > 9) return BAD;
            if (tasks.size() == 12) return FULL;
            Task t = new Task();
            t.number = tasks.size();
            t.sort = sort;
            t.rank = rank;
            tasks.add(t);
            return t.number;
        }

        int act(int task, int kind, int a, int b) {
            if (no(task) || kind < 0 || kind > 15 || kind == 2 && a > 40) return BAD;
            Task t = tasks.get(task);
            if (t.state != 0 || t.acted) return NO;
            if (t.acts.size() == 16) return FULL;
            t.acts.add(new int[] {kind, a, b});
            return t.acts.size() - 1;
        }

        int workers(int n) {
            if (n < 1 || n > 4) return BAD;
            int was = workers;
            workers = n;
            return was;
        }

        int turn(int n) {
            if (n < 1 || n > 50) return BAD;
            int sum = 0;
            for (int i = 0; i < n; i++) {
                int was = acts;
                oneTurn();
                sum += acts - was;
                if (acts == was) break;
            }
            return sum;
        }

        void oneTurn() {
            turns++;
            for (Task t : tasks) {
                t.worked = false;
                if (t.state == 1 && turns >= t.readyIn) t.state = 0;
                if (t.state == 2 && !t.letters.isEmpty()) t.state = 0;
            }
            for (int w = 0; w < workers; w++) {
                tasks.stream().filter(t -> t.state == 0 && !t.worked)
                    .min((s, t) -> s.rank + s.age != t.rank + t.age
                        ? Integer.compare(t.rank + t.age, s.rank + s.age) : Integer.compare(s.number, t.number))
                    .ifPresent(this::work);
            }
            for (Task t : tasks) if (t.state == 0 && !t.worked) t.age++;
        }

        void work(Task t) {
            t.worked = true;
            t.age = 0;
            if (t.next < t.acts.size()) tryAct(t);
            if (t.next == t.acts.size()) {
                t.state = 3;
                done.add(t.number);
            }
        }

        void tryAct(Task t) {
            int failure = 0;
            try {
                int wait = doAct(t, false);
                if (wait > 0) {
                    t.state = 1;
                    t.readyIn = turns + 1L + wait;
                }
            } catch (NullPointerException e) {
                failure = 1;
            } catch (IndexOutOfBoundsException e) {
                failure = 2;
            } catch (ArrayStoreException e) {
                failure = 3;
            } catch (ClassCastException e) {
                failure = 4;
            } catch (NegativeArraySizeException e) {
                failure = 5;
            } catch (ArithmeticException e) {
                failure = 6;
            } catch (Told e) {
                failure = e.failure;
            }
            if (failure == 0) return;
            failures++;
            t.failures++;
            t.latest = failure;
            t.next--;
            t.failedAct = t.next;
            if (t.sort <= 1) {
                t.state = 4;
            } else if (t.sort == 3 && t.failures <= 3 || t.sort == 4 && t.failures <= 5) {
                t.backs++;
                t.back();
            } else {
                t.next++;
            }
        }

        /** Next goes on ahead of the act, so that a failure finds it one behind the act that failed. */
        int doAct(Task t, boolean guarded) {
            int[] act = t.acts.get(t.next++);
            int a = act[1], b = act[2];
            acts++;
            t.acted = true;
            switch (act[0]) {
                case 0: t.sum += a; if (t.sort == 1 || t.sort == 4) t.sum += a; break;
                case 1: t.sum = t.sum / a; break;
                case 2: t.row = new int[a]; break;
                case 3: t.row[a] = t.sum; break;
                case 4: t.sum += t.row[a]; break;
                case 5:
                    if (!t.letters.isEmpty()) t.sum += t.letters.remove(0);
                    else if (guarded) throw new Told(9);
                    else { t.state = 2; t.next--; }
                    break;
                case 6:
                    Task to = tasks.get(a);
                    if (to.over()) lost++;
                    else if (to.letters.size() == 6) throw new Told(7);
                    else to.letters.add(t.sum + b);
                    break;
                case 7: return Math.max(a, 0);
                case 8: t.markSum = t.sum; t.markNext = t.next; t.markRow = t.row == null ? null : t.row.clone(); break;
                case 9:
                    if (guarded) throw new Told(8);
                    return doGuarded(t, a);
                case 10: t.box = a == 0 ? new int[3] : a == 1 ? new Task[3] : null; break;
                case 11: ((int[]) t.box)[a] = t.sum; break;
                case 12:
                    Task other = tasks.get(b);
                    ((Task[]) t.box)[a] = other;
                    break;
                case 13: t.sum += ((Task[]) t.box)[a].sum; break;
                case 14: if (t.sum < a) throw new Told(10); break;
                default: copy(t, a);
            }
            return 0;
        }

        static void copy(Task t, int a) {
            // arraycopy tells a row of tasks ahead of an index, as the document does.
            System.arraycopy(t.row, 0, t.box, 0, a);
        }

        int doGuarded(Task t, int a) {
            int wait = 0;
            try {
                for (int i = 0; i < a && t.next < t.acts.size(); i++) {
                    int w = doAct(t, true);
                    if (w > 0) wait = w;
                }
            } finally {
                left++;
            }
            return wait;
        }

        int letter(int task, int v) {
            if (no(task)) return BAD;
            Task t = tasks.get(task);
            if (t.over()) return NO;
            if (t.letters.size() == 6) return FULL;
            t.letters.add(v);
            return t.letters.size();
        }

        int stop(int task) {
            if (no(task)) return BAD;
            if (tasks.get(task).over()) return NO;
            tasks.get(task).state = 5;
            return 1;
        }

        int again(int task) {
            if (no(task)) return BAD;
            Task t = tasks.get(task);
            if (t.state < 4) return NO;
            t.state = 0;
            t.back();
            return 1;
        }

        int of(int task, int what) {
            if (no(task) || what < 0 || what > 10) return BAD;
            Task t = tasks.get(task);
            int[] all = {t.state, t.sum, t.next, t.letters.size(), t.age, t.failures, t.latest,
                t.row == null ? NONE : t.row.length, t.box == null ? NONE : t.box instanceof int[] ? 0 : 1,
                t.backs, t.failedAct};
            return all[what];
        }

        int at(int task, boolean box, int i) {
            if (no(task)) return BAD;
            Task t = tasks.get(task);
            if (box && t.box instanceof Task[] others) {
                if (i < 0 || i >= others.length) return BAD;
                return others[i] == null ? NONE : others[i].number;
            }
            int[] ints = box ? (int[]) t.box : t.row;
            return ints == null || i < 0 || i >= ints.length ? BAD : ints[i];
        }

        int letterAt(int task, int i) {
            if (no(task) || i < 0 || i >= tasks.get(task).letters.size()) return BAD;
            return tasks.get(task).letters.get(i);
        }

        int count(int what) {
            switch (what) {
                case 0: return tasks.size();
                case 1: return turns;
                case 2: return acts;
                case 3: return lost;
                case 4: return left;
                case 5: return failures;
                case 6: return (int) tasks.stream().filter(t -> !t.over()).count();
                default: return BAD;
            }
        }

        int done(int k) {
            return k < 0 || k >= done.size() ? NONE : done.get(k);
        }
    }
}
