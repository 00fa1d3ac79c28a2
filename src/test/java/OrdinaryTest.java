import java.util.ArrayList;
import java.util.List;

/**
 * The sentences of the document that name no boundary case, in its order, on one ordinary machine
 * whose times and costs were worked out by hand.
 */
public final class OrdinaryTest {
    private static final int[][] JOBS = {
        {1, 6, 4, 20, 3}, {0, 8, 0, 15, 2}, {1, 5, 30, 33, 4}, {2, 10, 0, 60, 1}};

    public static void main(String[] args) {
        schedules();
        objectives();
        bestSchedules();
        rules();
        neighbors();
        jobsAndTheirValues();
        settings();
        theText();
        keeping();
        looking();
        sums();
        exactValues();
        undoable();
        digest();
        Checks.close();
    }

    /** The four jobs, with setups; nothing is kept. */
    private static BatchMachine ordinary() {
        BatchMachine x = Checks.machine(JOBS);
        int[][] setups = {{-1, 0, 2}, {-1, 1, 3}, {0, 1, 5}, {0, 2, 1}, {1, 0, 9}, {1, 1, 4}, {1, 2, 7}, {2, 1, 6}};
        for (int[] s : setups) {
            x.setSetup(s[0], s[1], s[2]);
        }
        return x;
    }

    private static BatchMachine keeping(String text) {
        BatchMachine x = ordinary();
        Checks.parse(x, text);
        return x;
    }

    private static void schedules() {
        Checks.sentence("A schedule is a sequence of batches; a batch is a sequence of at least one job of one family.");
        BatchMachine x = keeping("1/02/3");
        Checks.dueKept("parse()", x, "1/02/3");
        Checks.sentence("Before each batch there is a setup;");
        Checks.dueBatch("1/02/3", x, 0, 0, 1, 0, 2, 2, 10);
        Checks.dueBatch("1/02/3", x, 1, 1, 2, 10, 15, 15, 35);
        Checks.dueBatch("1/02/3", x, 2, 2, 1, 35, 42, 42, 52);
        Checks.parse(x, "1/0/2/3");
        Checks.dueBatch("1/0/2/3", x, 2, 1, 1, 21, 25, 30, 35);
        Checks.sentence("After the setup:");
        x.setMode(true, true);
        Checks.parse(x, "1/20/3");
        Checks.dueBatch("batch availability", x, 1, 1, 2, 10, 15, 30, 41);
        x.setMode(false, false);
        Checks.dueBatch("item availability, not early", x, 1, 1, 2, 30, 35, 35, 46);
    }

    private static void dueCosts(String name, BatchMachine x, long... want) {
        for (int objective = 0; objective < 6; objective++) {
            x.setObjective(objective);
            Checks.due(name + ", objective " + objective + ": cost()", () -> x.cost(), want[objective]);
        }
    }

    private static void objectives() {
        Checks.sentence("The cost of a schedule is, by the objective: 0 the sum of w * C; 1 the sum of w * T; "
                + "2 the sum of w * T * T;");
        BatchMachine x = keeping("1/02/3");
        // Job 1 is completed at 10, job 0 at 21, job 2 at 35 and job 3 at 52.
        dueCosts("item availability", x, 20 + 63 + 140 + 52, 3 + 8, 3 + 16, 3 + 4, 2, 52);
        x.setMode(true, true);
        // Now jobs 0 and 2 at 41 and job 3 at 58.
        dueCosts("batch availability", x, 20 + 123 + 164 + 58, 63 + 32, 3 * 441 + 4 * 64, 3 + 4, 21, 58);
    }

    /** All complete schedules, as texts, of the jobs whose bits are not used yet. */
    private static List<String> complete(int used) {
        List<String> texts = new ArrayList<>();
        lengthen("", used, texts);
        return texts;
    }

    private static void lengthen(String text, int used, List<String> texts) {
        if (used == 15) {
            texts.add(text);
            return;
        }
        for (int job = 0; job < 4; job++) {
            if ((used >> job & 1) == 0) {
                if (!text.isEmpty()) {
                    lengthen(text + "/" + job, used | 1 << job, texts);
                }
                if (text.isEmpty() || sameFamily(text.charAt(text.length() - 1), (char) ('0' + job))) {
                    lengthen(text + job, used | 1 << job, texts);
                }
            }
        }
    }

    private static boolean sameFamily(char digit, char other) {
        return JOBS[digit - '0'][0] == JOBS[other - '0'][0];
    }

    private static BatchMachine ordinary(int mode, int objective) {
        BatchMachine x = ordinary();
        x.setMode(mode >= 2, mode % 2 == 1);
        x.setObjective(objective);
        return x;
    }

    /** By an object of its own, as an object has 512 calls only. */
    private static long costOf(int mode, int objective, String text) {
        BatchMachine x = ordinary(mode, objective);
        Checks.parse(x, text);
        return x.cost();
    }

    private static void bestSchedules() {
        for (int mode = 0; mode < 4; mode++) {
            for (int objective = 0; objective < 6; objective++) {
                bestOf(mode, objective);
            }
        }
    }

    private static void bestOf(int mode, int objective) {
        long least = Long.MAX_VALUE;
        long[] leastWithFirst = {Long.MAX_VALUE, Long.MAX_VALUE, Long.MAX_VALUE, Long.MAX_VALUE};
        for (String text : complete(0)) {
            long cost = costOf(mode, objective, text);
            int first = text.charAt(0) - '0';
            leastWithFirst[first] = Math.min(leastWithFirst[first], cost);
            least = Math.min(least, cost);
        }
        BatchMachine x = ordinary(mode, objective);
        String name = "mode " + mode + ", objective " + objective + ": ";
        Checks.sentence("The best cost is the smallest cost of all complete schedules.");
        Checks.due(name + "bestCost()", () -> x.bestCost(), least);
        Checks.sentence("Returns the smallest cost of the complete schedules whose first job is a given one. "
                + "- `job`: number of a job Returns that cost.");
        for (int job = 0; job < 4; job++) {
            int j = job;
            Checks.due(name + "bestWithFirst(" + j + ")", () -> x.bestWithFirst(j), leastWithFirst[j]);
        }
        Checks.sentence("The best schedule is one with the best cost, as follows:");
        Checks.due(name + "keepBest()", () -> x.keepBest(), least);
        Checks.due(name + "cost() of the best schedule", () -> x.cost(), least);
        Checks.dueTrue(name + "the best schedule is complete", complete(0).contains(Checks.kept(x)));
    }

    private static void rules() {
        Checks.sentence("A rule gives a sequence of all jobs: 0 ascending release times; 1 ascending due dates; "
                + "2 ascending processing time / weight (compared exactly as fractions);");
        String[] want = {"1/3/02", "1/02/3", "20/1/3", "1/02/3"};
        // 1/3/02 runs 2-10, 11-21, 27-33, 33-38; 20/1/3 runs 30-35, 35-41, 50-58, 59-69.
        long[] cost = {3 * 13 + 4 * 5, 11, 4 * 2 + 3 * 21 + 2 * 43 + 9, 11};
        BatchMachine x = ordinary();
        for (int rule = 0; rule < 4; rule++) {
            int r = rule;
            Checks.sentence("Returns the cost of the schedule of a rule.");
            Checks.due("ruleCost(" + r + ")", () -> x.ruleCost(r), cost[r]);
            Checks.sentence("Keeps the schedule of a rule. Undoable.");
            Checks.due("keepRule(" + r + ")", () -> x.keepRule(r), cost[r]);
            Checks.dueKept("keepRule(" + r + ")", x, want[r]);
        }
    }

    /** A sequence of jobs with slashes where the family changes. */
    private static String grouped(String sequence) {
        StringBuilder text = new StringBuilder();
        for (int i = 0; i < sequence.length(); i++) {
            if (i > 0 && !sameFamily(sequence.charAt(i - 1), sequence.charAt(i))) {
                text.append('/');
            }
            text.append(sequence.charAt(i));
        }
        return text.toString();
    }

    private static List<String> neighborsOf(String kept) {
        String sequence = kept.replace("/", "");
        List<String> texts = new ArrayList<>();
        for (int i = 0; i + 1 < sequence.length(); i++) {
            texts.add(grouped(sequence.substring(0, i) + sequence.charAt(i + 1) + sequence.charAt(i)
                    + sequence.substring(i + 2)));
        }
        for (int i = 0; i < sequence.length(); i++) {
            String others = sequence.substring(0, i) + sequence.substring(i + 1);
            for (int j = 0; j < sequence.length(); j++) {
                if (j != i) {
                    texts.add(grouped(others.substring(0, j) + sequence.charAt(i) + others.substring(j)));
                }
            }
        }
        return texts;
    }

    /** One step from every complete schedule. */
    private static void neighbors() {
        Checks.sentence("A neighbor of the kept schedule is made from the sequence of its jobs (over all batches) "
                + "by exchanging the jobs at the places i and i + 1, or by moving the job at place i to place j "
                + "(the others keep their order), and taking as batches the longest pieces of jobs of one family.");
        for (int mode = 0; mode < 4; mode++) {
            for (String text : complete(0)) {
                String want = text;
                for (String neighbor : neighborsOf(text)) {
                    if (want.equals(text) && costOf(mode, 1, neighbor) < costOf(mode, 1, text)) {
                        want = neighbor;
                    }
                }
                BatchMachine x = ordinary(mode, 1);
                Checks.parse(x, text);
                Checks.due("improve(1) of " + text, () -> x.improve(1), want.equals(text) ? 0 : 1);
                Checks.dueKept("improve(1) of " + text, x, want);
            }
        }
    }

    private static void jobsAndTheirValues() {
        Checks.sentence("Adds a job. Undoable.");
        BatchMachine x = new BatchMachine();
        for (int job = 0; job < 4; job++) {
            int[] v = JOBS[job];
            Checks.sentence("- `family`: 0 to 3 - `time`: processing time, 1 to 50 - `release`: release time, 0 to 300 "
                    + "- `due`: due date, 0 to 500 - `weight`: 1 to 9 Returns the number of the job.");
            Checks.due("addJob", () -> x.addJob(v[0], v[1], v[2], v[3], v[4]), job);
            Checks.sentence("Returns the number of jobs.");
            Checks.due("jobs()", () -> x.jobs(), job + 1);
        }
        Checks.sentence("Returns a value of a job. - `job`: number of a job - `what`: 0 its family, "
                + "1 its processing time, 2 its release time, 3 its due date, 4 its weight Returns that value.");
        for (int k = 0; k < 20; k++) {
            int job = k / 5;
            int what = k % 5;
            Checks.due("job(" + job + ", " + what + ")", () -> x.job(job, what), JOBS[job][what]);
        }
        Checks.sentence("Changes a value of a job. Undoable. - `job`: number of a job - `what`: 0 its family, "
                + "1 its processing time, 2 its release time, 3 its due date, 4 its weight - `value`: "
                + "the new value, in the range of addJob() Returns the previous value.");
        for (int what = 0; what < 5; what++) {
            int w = what;
            Checks.due("setJob(2, " + w + ", 2)", () -> x.setJob(2, w, 2), JOBS[2][w]);
            Checks.due("job(2, " + w + ")", () -> x.job(2, w), 2);
        }
        Checks.sentence("Throws `IllegalArgumentException` if what or value is out of range");
        Checks.refusedArgument(x, "setJob(2, 5, 2)", () -> x.setJob(2, 5, 2));
        Checks.refusedArgument(x, "setJob(2, 0, 4)", () -> x.setJob(2, 0, 4));
        Checks.sentence("Removes a job; the numbers of those behind it decrease by 1. Undoable. - `job`: number of a job "
                + "Returns the number of jobs that are left.");
        Checks.due("removeJob(1)", () -> x.removeJob(1), 3);
        Checks.due("job(2, 1)", () -> x.job(2, 1), 10);
    }

    private static void settings() {
        Checks.sentence("Sets a setup time. Undoable. - `from`: 0 to 3, or NONE for the initial setup "
                + "- `to`: 0 to 3 - `time`: 0 to 60 Returns the previous setup time.");
        BatchMachine x = keeping("1/02/3");
        Checks.due("setSetup(NONE, 0, 12)", () -> x.setSetup(BatchMachine.NONE, 0, 12), 2);
        Checks.due("setSetup(0, 1, 8)", () -> x.setSetup(0, 1, 8), 5);
        Checks.dueBatch("other setups", x, 0, 0, 1, 0, 12, 12, 20);
        Checks.dueBatch("other setups", x, 1, 1, 2, 20, 28, 28, 39);
        Checks.sentence("Sets the rules of the machine. Undoable. - `batch`: true for batch availability, "
                + "false for item availability - `early`: whether early setups are allowed "
                + "Returns 2 if batch availability held before, plus 1 if early setups were allowed before.");
        Checks.due("setMode(true, false)", () -> x.setMode(true, false), 1);
        Checks.dueBatch("setMode(true, false)", x, 1, 1, 2, 30, 38, 38, 49);
        Checks.due("setMode(false, true)", () -> x.setMode(false, true), 2);
        Checks.dueBatch("setMode(false, true)", x, 1, 1, 2, 20, 28, 28, 39);
        Checks.sentence("Sets the objective. Undoable. - `objective`: 0 to 5 Returns the previous objective.");
        Checks.due("setObjective(5)", () -> x.setObjective(5), 1);
        Checks.due("cost()", () -> x.cost(), 39 + 7 + 10);
        Checks.due("setObjective(3)", () -> x.setObjective(3), 5);
        Checks.due("cost()", () -> x.cost(), 2 + 3 + 4);
    }

    private static void theText() {
        Checks.sentence("Appends a byte to the schedule text.");
        BatchMachine x = ordinary();
        String text = "3/20";
        for (int i = 0; i < 4; i++) {
            int sign = text.charAt(i);
            Checks.sentence("Returns the new length of the text.");
            Checks.due("append(" + sign + ")", () -> x.append(sign), i + 1);
        }
        Checks.sentence("Returns the number of batches; -10 minus the syntax error position if there is a syntax error");
        Checks.due("parse()", () -> x.parse(), 2);
        Checks.dueKept("parse()", x, text);
        x.append('3');
        Checks.due("parse() of 3/203", () -> x.parse(), -14);
        Checks.due("clearText()", () -> x.clearText(), 5);
    }

    private static void keeping() {
        Checks.sentence("Keeps the schedule of a rule. Undoable. - `rule`: 0 to 3 Returns its cost.");
        BatchMachine x = ordinary();
        Checks.due("keepRule(2)", () -> x.keepRule(2), x.ruleCost(2));
        Checks.dueKept("keepRule(2)", x, "20/1/3");
        Checks.sentence("Keeps the best schedule. Undoable. Returns its cost.");
        // Job 2 is completed at 35 at the earliest, and job 0 at 21 behind job 1; 0/1/2/3 takes longer.
        Checks.due("keepBest()", () -> x.keepBest(), 11);
        Checks.dueKept("keepBest()", x, "1/02/3");
        Checks.sentence("Throws `IllegalArgumentException` if steps is out of range");
        Checks.refusedArgument(x, "improve(51)", () -> x.improve(51));
        Checks.due("improve(50) of the best schedule", () -> x.improve(50), 0);
    }

    private static void looking() {
        BatchMachine x = keeping("1/02/3");
        Checks.sentence("Returns the number of batches of the kept schedule.");
        Checks.due("batches()", () -> x.batches(), 3);
        Checks.sentence("Returns something about a batch of the kept schedule. - `batch`: index of the batch, from 0 "
                + "- `what`: 0 its family, 1 the number of its jobs, 2 the start of its setup, 3 the end of its setup, "
                + "4 the start of its first job, 5 the end of its last job Returns that value.");
        x.setJob(0, 2, 17);
        Checks.dueBatch("release 17", x, 1, 1, 2, 10, 15, 17, 35);
        Checks.sentence("Returns a job of a batch of the kept schedule. - `batch`: index of the batch, from 0 "
                + "- `index`: place in the batch, from 0 Returns the number of the job.");
        Checks.due("jobAt(1, 0)", () -> x.jobAt(1, 0), 0);
        Checks.due("jobAt(1, 1)", () -> x.jobAt(1, 1), 2);
        Checks.due("jobAt(2, 0)", () -> x.jobAt(2, 0), 3);
        Checks.sentence("Returns something about a job in the kept schedule. - `job`: number of a job - `what`: "
                + "0 its start, 1 its completion time, 2 max(0, completion time - due date), 3 the index of its batch");
        Checks.duePlanned("release 17", x, 0, 17, 23, 3, 1);
        Checks.duePlanned("release 17", x, 1, 2, 10, 0, 0);
        Checks.duePlanned("release 17", x, 2, 30, 35, 2, 1);
        Checks.duePlanned("release 17", x, 3, 42, 52, 0, 2);
    }

    private static void sums() {
        BatchMachine x = keeping("1/02/3");
        Checks.sentence("Returns the cost of the kept schedule. Returns the cost.");
        Checks.due("cost()", () -> x.cost(), 11);
        Checks.sentence("Returns a sum over the kept schedule. - `what`: 0 the time of all setups, "
                + "1 the processing time of all jobs, 2 the time at which the machine neither sets up nor processes, "
                + "up to the end of the last job Returns that sum.");
        Checks.dueTotals("item availability", x, 14, 29, 9);
        x.setMode(true, true);
        Checks.dueTotals("batch availability", x, 14, 29, 15);
    }

    private static void exactValues() {
        BatchMachine x = ordinary();
        Checks.sentence("Returns the cost of the schedule of a rule. - `rule`: 0 to 3 Returns the cost.");
        Checks.due("ruleCost(0)", () -> x.ruleCost(0), 59);
        Checks.sentence("Returns the best cost that there would be without a job. - `job`: number of a job "
                + "Returns that cost.");
        for (int job = 0; job < 4; job++) {
            int j = job;
            Checks.due("bestWithout(" + j + ")", () -> x.bestWithout(j), bestOfTheOthers(j));
        }
        Checks.sentence("- `job`: number of a job Returns that release time "
                + "(the present one if one more already changes the best cost);");
        // In the best schedule, 1/02/3, job 1 starts at 2, job 0 at 15 and job 2 at 30, and a later start
        // of any of them makes a job later that is late already; job 3 starts at 42 with 8 to spare.
        Checks.due("latestRelease(0)", () -> x.latestRelease(0), 15);
        Checks.due("latestRelease(1)", () -> x.latestRelease(1), 2);
        Checks.due("latestRelease(2)", () -> x.latestRelease(2), 30);
        Checks.due("latestRelease(3)", () -> x.latestRelease(3), 50);
        Checks.sentence("Returns by how much the best cost would change if all setup times between different families, "
                + "and all initial ones, were 0. Returns the present best cost minus that best cost.");
        // Without setups job 1 runs 0-8 and job 0 8-14; only job 2 is late.
        Checks.due("setupPrice()", () -> x.setupPrice(), 11 - 8);
    }

    private static long bestOfTheOthers(int job) {
        long least = Long.MAX_VALUE;
        for (String text : complete(1 << job)) {
            least = Math.min(least, costOf(1, 1, text));
        }
        return least;
    }

    /** What each undoable call changes is as it was behind undo(). */
    private static void undoable() {
        Checks.sentence("Undoable.");
        for (int kind = 0; kind < 10; kind++) {
            BatchMachine x = keeping("3/1");
            Checks.write(x, "20");
            x.undo();
            Checks.dueKept("undo() of parse()", x, "");
            x.undo();
            x.keepRule(2);
            x.clearText();
            x.append('3');
            long before = x.digest();
            int k = kind;
            call(x, k);
            Checks.dueTrue("call " + k + " changes more than the number of saved states", x.digest() != before + 1);
            x.undo();
            Checks.due("digest() behind call " + k + " and undo()", () -> x.digest(), before);
        }
    }

    private static void call(BatchMachine x, int kind) {
        switch (kind) {
            case 0: x.addJob(0, 1, 0, 0, 1); break;
            case 1: x.removeJob(3); break;
            case 2: x.setJob(3, 3, 61); break;
            case 3: x.setSetup(2, 2, 1); break;
            case 4: x.setMode(false, false); break;
            case 5: x.setObjective(0); break;
            case 6: x.parse(); break;
            case 7: x.keepRule(0); break;
            case 8: x.keepBest(); break;
            default: x.improve(1); break;
        }
    }

    private static void digest() {
        Checks.sentence("the length of the text; the number of jobs and, for each job, the values of job() "
                + "for what = 0 to 4; the initial setup times of the families 0 to 3; for f from 0 to 3 and g from 0 to 3 "
                + "the setup time from f to g; 1 or 0 for batch availability; 1 or 0 for early setups; the objective; "
                + "the number of batches of the kept schedule and, for each of them, the values of batch() "
                + "for what = 0 to 5 and its jobs; cost(); bestCost(); the number of saved states.");
        long[] values = {
            6, 4, 1, 6, 4, 20, 3, 0, 8, 0, 15, 2, 1, 5, 30, 33, 4, 2, 10, 0, 60, 1, 2, 3, 0, 0,
            0, 5, 1, 0, 9, 4, 7, 0, 0, 6, 0, 0, 0, 0, 0, 0, 0, 1, 1,
            3, 0, 1, 0, 2, 2, 10, 1, 1, 2, 10, 15, 15, 35, 0, 2, 2, 1, 35, 42, 42, 52, 3, 11, 11, 4};
        long hash = 2887;
        for (long value : values) {
            hash = 31 * hash + value;
        }
        BatchMachine x = keeping("1/02/3");
        Checks.due("digest()", () -> x.digest(), hash);
    }
}
