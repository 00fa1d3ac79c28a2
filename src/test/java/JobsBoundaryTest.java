/** Terms "Jobs" and "Setups" and promises 1 to 9: each sentence that names a boundary case. */
public final class JobsBoundaryTest {
    private static final int[] LEAST = {0, 1, 0, 0, 1};
    private static final int[] GREATEST = {3, 50, 300, 500, 9};
    private static final int[] AMID = {2, 25, 150, 250, 5};

    public static void main(String[] args) {
        newObject();
        atMostEightJobs();
        numberOfJobs();
        rangesOfAddJob();
        rangesOfSetJob();
        whatOfSetJobAndJob();
        noSuchJob();
        numbersBehindDecrease();
        setupsInitiallyZero();
        rangeOfSetups();
        noSuchFamily();
        modes();
        objectives();
        Checks.close();
    }

    private static int add(BatchMachine x, int[] v) {
        return x.addJob(v[0], v[1], v[2], v[3], v[4]);
    }

    private static int[] amidWith(int what, int value) {
        int[] v = AMID.clone();
        v[what] = value;
        return v;
    }

    private static void dueJob(BatchMachine x, int job, int[] want) {
        for (int what = 0; what < 5; what++) {
            int w = what;
            Checks.due("job(" + job + ", " + w + ")", () -> x.job(job, w), want[w]);
        }
    }

    private static void newObject() {
        Checks.sentence("Creates a machine without jobs, with all setup times 0.");
        BatchMachine x = new BatchMachine();
        Checks.due("jobs()", () -> x.jobs(), 0);
        Checks.refusedIndex(x, "job(0, 0)", () -> x.job(0, 0));
        Checks.sentence("One schedule is kept, initially the empty one.");
        Checks.due("batches()", () -> x.batches(), 0);
        Checks.due("cost()", () -> x.cost(), 0);
        Checks.sentence("Initially item availability holds, and early setups are allowed.");
        Checks.due("setMode(false, true)", () -> x.setMode(false, true), 1);
        Checks.sentence("The initial objective is 1.");
        Checks.due("setObjective(1)", () -> x.setObjective(1), 1);
        Checks.sentence("`NONE = -1`: There is no such thing.");
        Checks.due("NONE", () -> BatchMachine.NONE, -1);
    }

    private static void atMostEightJobs() {
        Checks.sentence("There are at most 8 jobs, numbered from 0.");
        BatchMachine x = new BatchMachine();
        for (int j = 0; j < 8; j++) {
            int[] v = {j % 4, j + 1, j, j, j + 1};
            Checks.due("addJob", () -> add(x, v), j);
        }
        Checks.sentence("Throws `IllegalStateException` if there are 8 jobs");
        Checks.refusedState(x, "addJob of a ninth", () -> add(x, AMID));
        Checks.due("jobs()", () -> x.jobs(), 8);
        dueJob(x, 7, new int[] {3, 8, 7, 7, 8});
        x.removeJob(3);
        Checks.due("addJob behind removeJob", () -> add(x, AMID), 7);
        Checks.refusedState(x, "addJob of a ninth again", () -> add(x, AMID));
        x.undo();
        Checks.due("addJob behind undo", () -> add(x, LEAST), 7);
        dueJob(x, 7, LEAST);
    }

    private static void numberOfJobs() {
        Checks.sentence("Returns 0 to 8.");
        BatchMachine x = new BatchMachine();
        Checks.due("jobs()", () -> x.jobs(), 0);
        for (int j = 0; j < 8; j++) {
            add(x, AMID);
            Checks.due("jobs()", () -> x.jobs(), j + 1);
        }
        Checks.sentence("Returns the number of jobs that are left.");
        for (int left = 7; left >= 0; left--) {
            Checks.due("removeJob(0)", () -> x.removeJob(0), left);
            Checks.due("jobs()", () -> x.jobs(), left);
        }
        Checks.refusedIndex(x, "removeJob(0) of none", () -> x.removeJob(0));
    }

    private static void rangesOfAddJob() {
        Checks.sentence("A job has a family (0 to 3), a processing time (1 to 50), a release time (0 to 300), "
                + "a due date (0 to 500) and a weight (1 to 9).");
        for (int what = 0; what < 5; what++) {
            for (int value : new int[] {LEAST[what], GREATEST[what]}) {
                BatchMachine x = new BatchMachine();
                int[] v = amidWith(what, value);
                Checks.due("addJob with value " + what + " = " + value, () -> add(x, v), 0);
                dueJob(x, 0, v);
            }
        }
        BatchMachine y = new BatchMachine();
        Checks.due("addJob of the least values", () -> add(y, LEAST), 0);
        Checks.due("addJob of the greatest values", () -> add(y, GREATEST), 1);
        dueJob(y, 0, LEAST);
        dueJob(y, 1, GREATEST);
        Checks.sentence("Throws `IllegalArgumentException` if an argument is out of range");
        for (int what = 0; what < 5; what++) {
            for (int value : new int[] {LEAST[what] - 1, GREATEST[what] + 1, Checks.LOW, Checks.HIGH}) {
                int[] v = amidWith(what, value);
                Checks.refusedArgument(y, "addJob with value " + what + " = " + value, () -> add(y, v));
            }
        }
    }

    private static void rangesOfSetJob() {
        Checks.sentence("the new value, in the range of addJob()");
        for (int what = 0; what < 5; what++) {
            int w = what;
            BatchMachine x = Checks.machine(LEAST, AMID, GREATEST);
            String call = "setJob(1, " + w + ", ";
            Checks.due(call + "least)", () -> x.setJob(1, w, LEAST[w]), AMID[w]);
            dueJob(x, 1, amidWith(w, LEAST[w]));
            Checks.due(call + "greatest)", () -> x.setJob(1, w, GREATEST[w]), LEAST[w]);
            dueJob(x, 1, amidWith(w, GREATEST[w]));
            for (int value : new int[] {LEAST[w] - 1, GREATEST[w] + 1, Checks.LOW, Checks.HIGH}) {
                Checks.refusedArgument(x, call + value + ")", () -> x.setJob(1, w, value));
            }
            dueJob(x, 0, LEAST);
            dueJob(x, 2, GREATEST);
        }
    }

    private static void whatOfSetJobAndJob() {
        Checks.sentence("0 its family, 1 its processing time, 2 its release time, 3 its due date, 4 its weight");
        BatchMachine x = Checks.machine(AMID);
        dueJob(x, 0, AMID);
        for (int what : new int[] {-1, 5, Checks.LOW, Checks.HIGH}) {
            Checks.refusedArgument(x, "setJob(0, " + what + ", 1)", () -> x.setJob(0, what, 1));
            Checks.refusedArgument(x, "job(0, " + what + ")", () -> x.job(0, what));
        }
        Checks.due("setJob(0, 0, 3)", () -> x.setJob(0, 0, 3), 2);
        Checks.due("setJob(0, 4, 9)", () -> x.setJob(0, 4, 9), 5);
        Checks.due("job(0, 0)", () -> x.job(0, 0), 3);
        Checks.due("job(0, 4)", () -> x.job(0, 4), 9);
    }

    private static void noSuchJob() {
        Checks.sentence("Throws `IndexOutOfBoundsException` if there is no such job");
        for (int count : new int[] {0, 1, 8}) {
            BatchMachine x = Checks.equalJobs(count);
            for (int job : new int[] {-1, count, Checks.LOW, Checks.HIGH}) {
                String of = " of " + count;
                Checks.refusedIndex(x, "removeJob(" + job + ")" + of, () -> x.removeJob(job));
                Checks.refusedIndex(x, "setJob(" + job + ", 1, 1)" + of, () -> x.setJob(job, 1, 1));
                Checks.refusedIndex(x, "job(" + job + ", 1)" + of, () -> x.job(job, 1));
            }
        }
        BatchMachine y = Checks.equalJobs(8);
        Checks.due("setJob(7, 1, 2)", () -> y.setJob(7, 1, 2), 1);
        Checks.due("job(7, 1)", () -> y.job(7, 1), 2);
        Checks.due("removeJob(7)", () -> y.removeJob(7), 7);
        Checks.refusedIndex(y, "job(7, 1) of 7", () -> y.job(7, 1));
    }

    private static void numbersBehindDecrease() {
        Checks.sentence("Removes a job; the numbers of those behind it decrease by 1.");
        for (int removed : new int[] {0, 3, 7}) {
            BatchMachine x = new BatchMachine();
            for (int j = 0; j < 8; j++) {
                x.addJob(j % 4, 10 + j, 20 + j, 30 + j, 1 + j);
            }
            x.removeJob(removed);
            for (int j = 0; j < 7; j++) {
                int old = j < removed ? j : j + 1;
                dueJob(x, j, new int[] {old % 4, 10 + old, 20 + old, 30 + old, 1 + old});
            }
            Checks.refusedIndex(x, "job(7, 0) behind removeJob(" + removed + ")", () -> x.job(7, 0));
        }
    }

    private static void setupsInitiallyZero() {
        Checks.sentence("For each family g there is an initial setup time, and for each pair of families f and g "
                + "(also f = g) a setup time from f to g; all are 0 to 60, initially 0.");
        BatchMachine x = new BatchMachine();
        for (int k = 0; k < 20; k++) {
            int from = k / 4 - 1;
            int to = k % 4;
            int time = 60 - k;
            Checks.due("setSetup(" + from + ", " + to + ", " + time + ")",
                    () -> x.setSetup(from, to, time), 0);
        }
        for (int k = 0; k < 20; k++) {
            int from = k / 4 - 1;
            int to = k % 4;
            Checks.due("setSetup(" + from + ", " + to + ", 0)", () -> x.setSetup(from, to, 0), 60 - k);
        }
    }

    private static void rangeOfSetups() {
        Checks.sentence("Throws `IllegalArgumentException` if time is out of range");
        BatchMachine x = new BatchMachine();
        for (int k = 0; k < 20; k++) {
            int from = k / 4 - 1;
            int to = k % 4;
            String call = "setSetup(" + from + ", " + to + ", ";
            Checks.due(call + "60)", () -> x.setSetup(from, to, 60), 0);
            Checks.refusedArgument(x, call + "61)", () -> x.setSetup(from, to, 61));
            Checks.refusedArgument(x, call + "-1)", () -> x.setSetup(from, to, -1));
            Checks.due(call + "0)", () -> x.setSetup(from, to, 0), 60);
        }
        Checks.refusedArgument(x, "setSetup(0, 0, HIGH)", () -> x.setSetup(0, 0, Checks.HIGH));
        Checks.refusedArgument(x, "setSetup(0, 0, LOW)", () -> x.setSetup(0, 0, Checks.LOW));
    }

    private static void noSuchFamily() {
        Checks.sentence("Throws `IndexOutOfBoundsException` if there is no such family");
        BatchMachine x = new BatchMachine();
        for (int from : new int[] {-2, 4, Checks.LOW, Checks.HIGH}) {
            Checks.refusedIndex(x, "setSetup(" + from + ", 0, 1)", () -> x.setSetup(from, 0, 1));
        }
        // NONE stands for the initial setup ahead of a family, never for one behind it.
        for (int to : new int[] {BatchMachine.NONE, 4, Checks.LOW, Checks.HIGH}) {
            Checks.refusedIndex(x, "setSetup(0, " + to + ", 1)", () -> x.setSetup(0, to, 1));
            Checks.refusedIndex(x, "setSetup(-1, " + to + ", 1)", () -> x.setSetup(-1, to, 1));
        }
        Checks.due("setSetup(-1, 3, 1)", () -> x.setSetup(-1, 3, 1), 0);
        Checks.due("setSetup(3, 0, 2)", () -> x.setSetup(3, 0, 2), 0);
        Checks.due("setSetup(3, 3, 3)", () -> x.setSetup(3, 3, 3), 0);
    }

    private static void modes() {
        Checks.sentence("Returns 2 if batch availability held before, plus 1 if early setups were allowed before.");
        for (int old = 0; old < 4; old++) {
            for (int next = 0; next < 4; next++) {
                BatchMachine x = new BatchMachine();
                x.setMode(old >= 2, old % 2 == 1);
                int n = next;
                Checks.due("setMode to " + n, () -> x.setMode(n >= 2, n % 2 == 1), old);
                Checks.due("setMode from " + n, () -> x.setMode(false, false), n);
            }
        }
    }

    private static void objectives() {
        Checks.sentence("Throws `IllegalArgumentException` if objective is out of range");
        BatchMachine x = new BatchMachine();
        for (int objective : new int[] {-1, 6, Checks.LOW, Checks.HIGH}) {
            Checks.refusedArgument(x, "setObjective(" + objective + ")", () -> x.setObjective(objective));
        }
        Checks.due("setObjective(0)", () -> x.setObjective(0), 1);
        Checks.due("setObjective(5)", () -> x.setObjective(5), 0);
        Checks.due("setObjective(5) again", () -> x.setObjective(5), 5);
    }
}
