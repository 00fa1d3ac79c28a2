/** Terms "Schedules" and "Objectives" and promises 16 to 21: each sentence that names a boundary case. */
public final class TimesBoundaryTest {
    public static void main(String[] args) {
        freeFromZero();
        setupOfTheFirstBatch();
        setupsBetweenBatches();
        readyTimes();
        setupWithoutEarlySetups();
        startOfAWholeBatch();
        wholeBatchWithoutAPause();
        startWithItemAvailability();
        freeAfterTheLastJob();
        aroundTheDueDate();
        squares();
        greatestOfSeveral();
        emptySchedule();
        jobsLeftOut();
        greatestValues();
        noSuchBatch();
        noSuchPlace();
        plannedJobs();
        totals();
        totalsOfIdleTimes();
        Checks.close();
    }

    /** Job 0 of family 0 runs 0-10; job 1 of family 1 has time 7. */
    private static BatchMachine twoBatches(int release, int setup) {
        BatchMachine x = Checks.machine(new int[] {0, 10, 0, 500, 1}, new int[] {1, 7, release, 500, 1});
        x.setSetup(0, 1, setup);
        Checks.parse(x, "0/1");
        return x;
    }

    private static BatchMachine oneJob(int release, int initialSetup) {
        BatchMachine x = Checks.machine(new int[] {2, 10, release, 500, 1});
        x.setSetup(-1, 2, initialSetup);
        Checks.parse(x, "0");
        return x;
    }

    private static void freeFromZero() {
        Checks.sentence("The machine is free from time 0 on and works through the batches in their order.");
        BatchMachine x = oneJob(0, 0);
        for (int mode = 0; mode < 4; mode++) {
            x.setMode(mode >= 2, mode % 2 == 1);
            Checks.dueBatch("mode " + mode, x, 0, 2, 1, 0, 0, 0, 10);
        }
    }

    private static void setupOfTheFirstBatch() {
        Checks.sentence("its time is the initial setup time of the family for the first batch, "
                + "otherwise the setup time from the family of the batch before.");
        BatchMachine x = Checks.machine(new int[] {3, 5, 0, 0, 1}, new int[] {3, 5, 0, 0, 1});
        x.setSetup(-1, 3, 60);
        x.setSetup(3, 3, 1);
        Checks.parse(x, "0/1");
        Checks.dueBatch("0/1", x, 0, 3, 1, 0, 60, 60, 65);
        // Also from a family to itself, but not within a batch.
        Checks.dueBatch("0/1", x, 1, 3, 1, 65, 66, 66, 71);
        Checks.parse(x, "10");
        Checks.dueBatch("10", x, 0, 3, 2, 0, 60, 60, 70);
    }

    private static void setupsBetweenBatches() {
        Checks.sentence("otherwise the setup time from the family of the batch before.");
        BatchMachine x = Checks.machine(new int[] {0, 1, 0, 0, 1}, new int[] {1, 1, 0, 0, 1},
                new int[] {3, 1, 0, 0, 1});
        x.setSetup(-1, 1, 40);
        x.setSetup(0, 1, 10);
        x.setSetup(1, 0, 20);
        x.setSetup(1, 3, 60);
        Checks.parse(x, "0/1/2");
        Checks.dueBatch("0/1/2", x, 1, 1, 1, 1, 11, 11, 12);
        Checks.dueBatch("0/1/2", x, 2, 3, 1, 12, 72, 72, 73);
        Checks.parse(x, "1/0/2");
        Checks.dueBatch("1/0/2", x, 1, 0, 1, 41, 61, 61, 62);
        Checks.dueBatch("1/0/2", x, 2, 3, 1, 62, 62, 62, 63);
    }

    private static void readyTimes() {
        Checks.sentence("The ready time of a batch is, with batch availability, the greatest release time of its jobs; "
                + "with item availability, the release time of its first job.");
        BatchMachine x = Checks.machine(new int[] {0, 5, 30, 500, 1}, new int[] {0, 5, 300, 500, 1},
                new int[] {0, 5, 20, 500, 1});
        Checks.parse(x, "012");
        x.setMode(false, false);
        Checks.dueBatch("item, 012", x, 0, 0, 3, 30, 30, 30, 310);
        x.setMode(true, false);
        Checks.dueBatch("batch, 012", x, 0, 0, 3, 300, 300, 300, 315);
        Checks.parse(x, "20");
        Checks.dueBatch("batch, 20", x, 0, 0, 2, 30, 30, 30, 40);
        x.setMode(false, false);
        Checks.dueBatch("item, 20", x, 0, 0, 2, 20, 20, 20, 35);
    }

    private static void setupWithoutEarlySetups() {
        Checks.sentence("The setup starts when the machine is free; without early setups, "
                + "not before the ready time of the batch.");
        for (int release : new int[] {0, 9, 10, 11, 300}) {
            for (int whole = 0; whole < 2; whole++) {
                BatchMachine x = twoBatches(release, 5);
                String name = "release " + release + ", whole " + whole + ":";
                x.setMode(whole == 1, false);
                int setup = Math.max(10, release);
                Checks.dueBatch(name, x, 1, 1, 1, setup, setup + 5, setup + 5, setup + 12);
                x.setMode(whole == 1, true);
                int start = Math.max(15, release);
                Checks.dueBatch(name + " early,", x, 1, 1, 1, 10, 15, start, start + 7);
            }
        }
        BatchMachine y = oneJob(1, 60);
        y.setMode(false, false);
        Checks.dueBatch("first, not early", y, 0, 2, 1, 1, 61, 61, 71);
        y.setMode(true, false);
        Checks.dueBatch("first, not early, whole", y, 0, 2, 1, 1, 61, 61, 71);
    }

    private static void startOfAWholeBatch() {
        Checks.sentence("with batch availability, the processing of the batch starts at the end of the setup "
                + "or at its ready time, whichever is later;");
        for (int release : new int[] {0, 19, 20, 21, 300}) {
            BatchMachine x = oneJob(release, 20);
            x.setMode(true, true);
            int start = Math.max(20, release);
            Checks.dueBatch("release " + release, x, 0, 2, 1, 0, 20, start, start + 10);
        }
    }

    private static void wholeBatchWithoutAPause() {
        Checks.sentence("its jobs are processed one after the other without a pause, "
                + "and all of them are completed when the last one is finished;");
        BatchMachine x = Checks.machine(new int[] {0, 10, 0, 50, 1}, new int[] {0, 1, 40, 51, 1},
                new int[] {0, 50, 7, 101, 1});
        Checks.parse(x, "021");
        x.setMode(true, true);
        Checks.duePlanned("021", x, 0, 40, 101, 51, 0);
        Checks.duePlanned("021", x, 2, 50, 101, 0, 0);
        Checks.duePlanned("021", x, 1, 100, 101, 50, 0);
        Checks.parse(x, "0/1");
        Checks.duePlanned("0/1", x, 0, 0, 10, 0, 0);
        Checks.duePlanned("0/1", x, 1, 40, 41, 0, 1);
    }

    private static void startWithItemAvailability() {
        Checks.sentence("with item availability, each job starts at the end of the setup or of the job before, "
                + "or at its release time, whichever is later, and is completed when it is finished.");
        for (int release : new int[] {0, 29, 30, 31, 300}) {
            BatchMachine x = oneJob(release, 30);
            int start = Math.max(30, release);
            Checks.duePlanned("first, release " + release, x, 0, start, start + 10, 0, 0);
        }
        for (int release : new int[] {0, 9, 10, 11, 300}) {
            BatchMachine x = Checks.machine(new int[] {0, 10, 0, 10, 1}, new int[] {0, 7, release, 17, 1});
            Checks.parse(x, "01");
            int start = Math.max(10, release);
            Checks.duePlanned("release " + release, x, 0, 0, 10, 0, 0);
            Checks.duePlanned("release " + release, x, 1, start, start + 7, start - 10, 0);
        }
    }

    private static void freeAfterTheLastJob() {
        Checks.sentence("After the last job of a batch has been finished the machine is free.");
        BatchMachine x = Checks.machine(new int[] {0, 10, 0, 0, 1}, new int[] {0, 10, 50, 0, 1},
                new int[] {1, 1, 0, 0, 1});
        Checks.parse(x, "01/2");
        Checks.dueBatch("item", x, 1, 1, 1, 60, 60, 60, 61);
        x.setMode(true, true);
        Checks.dueBatch("batch", x, 1, 1, 1, 70, 70, 70, 71);
    }

    private static void aroundTheDueDate() {
        Checks.sentence("Let C be the completion time of a job, w its weight, and T = max(0, C - due date).");
        long[][] want = {
            // C is 10: due dates 9, 10 and 11.
            {90, 90, 90}, {9, 0, 0}, {9, 0, 0}, {9, 0, 0}, {1, 0, -1}, {10, 10, 10}};
        for (int objective = 0; objective < 6; objective++) {
            for (int k = 0; k < 3; k++) {
                BatchMachine x = Checks.machine(new int[] {0, 10, 0, 9 + k, 9});
                Checks.parse(x, "0");
                x.setObjective(objective);
                String name = "objective " + objective + ", due date " + (9 + k) + ": ";
                Checks.due(name + "cost()", () -> x.cost(), want[objective][k]);
                Checks.due(name + "bestCost()", () -> x.bestCost(), want[objective][k]);
                Checks.due(name + "planned(0, 2)", () -> x.planned(0, 2), k == 0 ? 1 : 0);
            }
        }
    }

    private static void squares() {
        Checks.sentence("2 the sum of w * T * T; 3 the sum of the weights of the jobs with T above 0;");
        BatchMachine x = Checks.machine(new int[] {0, 10, 0, 7, 9}, new int[] {0, 5, 0, 10, 2},
                new int[] {0, 5, 0, 20, 4});
        Checks.parse(x, "012");
        x.setObjective(1);
        Checks.due("cost()", () -> x.cost(), 9 * 3 + 2 * 5);
        x.setObjective(2);
        Checks.due("cost()", () -> x.cost(), 9 * 3 * 3 + 2 * 5 * 5);
        x.setObjective(3);
        Checks.due("cost()", () -> x.cost(), 9 + 2);
    }

    private static void greatestOfSeveral() {
        Checks.sentence("4 the greatest C - due date; 5 the greatest C; each over all jobs of the schedule.");
        BatchMachine x = Checks.machine(new int[] {0, 10, 0, 500, 1}, new int[] {0, 10, 0, 25, 1},
                new int[] {0, 10, 0, 100, 1});
        Checks.parse(x, "012");
        x.setObjective(4);
        Checks.due("cost() with all jobs early", () -> x.cost(), -5);
        x.setJob(0, 3, 4);
        Checks.due("cost() with a late job", () -> x.cost(), 6);
        x.setObjective(5);
        Checks.due("cost()", () -> x.cost(), 30);
        x.setObjective(4);
        Checks.parse(x, "2");
        Checks.due("cost() of one early job", () -> x.cost(), -90);
    }

    private static void emptySchedule() {
        Checks.sentence("The cost of the empty schedule is 0.");
        for (int count : new int[] {0, 8}) {
            BatchMachine x = Checks.equalJobs(count);
            for (int objective = 0; objective < 6; objective++) {
                x.setObjective(objective);
                Checks.due("cost(), " + count + " jobs, objective " + objective, () -> x.cost(), 0);
            }
            Checks.due("batches()", () -> x.batches(), 0);
            Checks.dueTotals("nothing", x, 0, 0, 0);
        }
    }

    private static void jobsLeftOut() {
        Checks.sentence("each over all jobs of the schedule.");
        BatchMachine x = Checks.machine(new int[] {0, 10, 0, 0, 9}, new int[] {0, 10, 0, 0, 1});
        Checks.parse(x, "1");
        long[] want = {10, 10, 100, 1, 10, 10};
        for (int objective = 0; objective < 6; objective++) {
            x.setObjective(objective);
            Checks.due("cost() of 1, objective " + objective, () -> x.cost(), want[objective]);
        }
        Checks.dueTotals("1", x, 0, 10, 0);
    }

    /** Eight jobs and setups of the greatest values: the k-th job is completed at 350 + 110 k. */
    private static void greatestValues() {
        Checks.sentence("all are 0 to 60");
        BatchMachine x = new BatchMachine();
        for (int j = 0; j < 8; j++) {
            x.addJob(j % 2 * 3, 50, 300, 0, 9);
        }
        Checks.setAllSetups(x, 60);
        Checks.parse(x, "0/1/2/3/4/5/6/7");
        long sum = 0;
        long squares = 0;
        for (int k = 0; k < 8; k++) {
            long end = 350 + 110 * k;
            sum += 9 * end;
            squares += 9 * end * end;
        }
        long[] want = {sum, sum, squares, 72, 1120, 1120};
        for (int objective = 0; objective < 6; objective++) {
            x.setObjective(objective);
            Checks.due("cost(), objective " + objective, () -> x.cost(), want[objective]);
        }
        Checks.dueBatch("the last of eight", x, 7, 3, 1, 1010, 1070, 1070, 1120);
        Checks.dueTotals("eight", x, 420, 400, 300);
        x.setSetup(-1, 0, 60);
        x.setMode(true, false);
        Checks.dueBatch("not early, the last of eight", x, 7, 3, 1, 1070, 1130, 1130, 1180);
        Checks.dueTotals("not early, eight", x, 480, 400, 300);
    }

    private static void noSuchBatch() {
        Checks.sentence("Throws `IndexOutOfBoundsException` if there is no such batch");
        BatchMachine x = Checks.equalJobs(8);
        Checks.refusedIndex(x, "batch(0, 0) of none", () -> x.batch(0, 0));
        Checks.refusedIndex(x, "jobAt(0, 0) of none", () -> x.jobAt(0, 0));
        Checks.sentence("Returns the number of batches.");
        for (int count = 1; count <= 8; count++) {
            Checks.parse(x, "0/1/2/3/4/5/6/7".substring(0, 2 * count - 1));
            Checks.due("batches()", () -> x.batches(), count);
        }
        Checks.sentence("index of the batch, from 0");
        Checks.dueBatch("the first of eight", x, 0, 0, 1, 0, 0, 0, 1);
        Checks.dueBatch("the last of eight", x, 7, 0, 1, 7, 7, 7, 8);
        for (int batch : new int[] {-1, 8, Checks.LOW, Checks.HIGH}) {
            Checks.refusedIndex(x, "batch(" + batch + ", 0)", () -> x.batch(batch, 0));
            Checks.refusedIndex(x, "jobAt(" + batch + ", 0)", () -> x.jobAt(batch, 0));
        }
        Checks.sentence("Throws `IllegalArgumentException` if what is out of range");
        for (int what : new int[] {-1, 6, Checks.LOW, Checks.HIGH}) {
            Checks.refusedArgument(x, "batch(7, " + what + ")", () -> x.batch(7, what));
        }
    }

    private static void noSuchPlace() {
        Checks.sentence("Throws `IndexOutOfBoundsException` if there is no such batch or place");
        BatchMachine x = Checks.equalJobs(8);
        Checks.parse(x, "3/76/15420");
        Checks.due("jobAt(0, 0)", () -> x.jobAt(0, 0), 3);
        Checks.due("jobAt(1, 0)", () -> x.jobAt(1, 0), 7);
        Checks.due("jobAt(1, 1)", () -> x.jobAt(1, 1), 6);
        Checks.due("jobAt(2, 0)", () -> x.jobAt(2, 0), 1);
        Checks.due("jobAt(2, 4)", () -> x.jobAt(2, 4), 0);
        int[][] nowhere = {{0, 1}, {0, -1}, {1, 2}, {1, -1}, {2, 5}, {2, -1}, {3, 0}, {-1, 0}, {0, Checks.HIGH},
            {2, Checks.LOW}};
        for (int[] p : nowhere) {
            Checks.refusedIndex(x, "jobAt(" + p[0] + ", " + p[1] + ")", () -> x.jobAt(p[0], p[1]));
        }
        Checks.parse(x, "76543210");
        Checks.due("jobAt(0, 7)", () -> x.jobAt(0, 7), 0);
        Checks.refusedIndex(x, "jobAt(0, 8)", () -> x.jobAt(0, 8));
    }

    private static void plannedJobs() {
        Checks.sentence("Returns that value; NONE if the kept schedule does not contain the job.");
        BatchMachine x = Checks.equalJobs(8);
        Checks.duePlanned("nothing kept", x, 0, -1, -1, -1, -1);
        Checks.parse(x, "7/6");
        Checks.duePlanned("7/6", x, 7, 0, 1, 1, 0);
        Checks.duePlanned("7/6", x, 6, 1, 2, 2, 1);
        Checks.duePlanned("7/6", x, 5, -1, -1, -1, -1);
        Checks.sentence("Throws `IllegalArgumentException` if what is out of range");
        for (int what : new int[] {-1, 4, Checks.LOW, Checks.HIGH}) {
            Checks.refusedArgument(x, "planned(7, " + what + ")", () -> x.planned(7, what));
            // Also for a job that is left out.
            Checks.refusedArgument(x, "planned(5, " + what + ")", () -> x.planned(5, what));
        }
        Checks.sentence("Throws `IndexOutOfBoundsException` if there is no such job");
        for (int job : new int[] {-1, 8, Checks.LOW, Checks.HIGH}) {
            Checks.refusedIndex(x, "planned(" + job + ", 0)", () -> x.planned(job, 0));
        }
        BatchMachine none = new BatchMachine();
        Checks.refusedIndex(none, "planned(0, 0) of none", () -> none.planned(0, 0));
    }

    private static void totals() {
        Checks.sentence("Throws `IllegalArgumentException` if what is out of range");
        BatchMachine x = twoBatches(0, 60);
        for (int what : new int[] {-1, 3, Checks.LOW, Checks.HIGH}) {
            Checks.refusedArgument(x, "total(" + what + ")", () -> x.total(what));
        }
        Checks.dueTotals("0/1", x, 60, 17, 0);
    }

    private static void totalsOfIdleTimes() {
        Checks.sentence("2 the time at which the machine neither sets up nor processes, up to the end of the last job");
        for (int release : new int[] {14, 15, 16, 300}) {
            BatchMachine x = twoBatches(release, 5);
            Checks.dueTotals("release " + release, x, 5, 17, Math.max(0, release - 15));
            x.setMode(false, false);
            Checks.dueTotals("not early, release " + release, x, 5, 17, release - 10);
        }
        BatchMachine y = Checks.machine(new int[] {0, 10, 5, 0, 1}, new int[] {0, 10, 40, 0, 1});
        Checks.parse(y, "01");
        Checks.dueTotals("ahead of a batch and within it", y, 0, 20, 30);
        y.setMode(true, true);
        Checks.dueTotals("ahead of a whole batch", y, 0, 20, 40);
    }
}
