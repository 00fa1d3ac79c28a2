/**
 * Terms "Best schedules", "Rules", "The kept schedule" and "Improvement" and promises 13 to 15:
 * each sentence that names a boundary case.
 */
public final class KeptBoundaryTest {
    public static void main(String[] args) {
        rangeOfRules();
        rulesOfNoneAndOne();
        tiesOfRules();
        exactFractions();
        dueDatesOfFamilies();
        longestPieces();
        bestOfNoneAndOne();
        bestHasAllJobs();
        bestWithItemAvailability();
        bestWithBatchAvailability();
        removedFromTheKeptSchedule();
        emptyBatchesDisappear();
        changedFamilies();
        otherChanges();
        rangeOfSteps();
        noStepPossible();
        smallerCostOnly();
        orderOfNeighbors();
        numberOfSteps();
        moreThanFiftySteps();
        Checks.close();
    }

    private static void dueRule(String name, BatchMachine x, int rule, String want) {
        long cost = x.ruleCost(rule);
        Checks.due(name + " keepRule(" + rule + ")", () -> x.keepRule(rule), cost);
        Checks.dueKept(name + " keepRule(" + rule + ")", x, want);
        Checks.due(name + " cost()", () -> x.cost(), cost);
    }

    private static void rangeOfRules() {
        Checks.sentence("Throws `IllegalArgumentException` if rule is out of range");
        BatchMachine x = Checks.equalJobs(8);
        Checks.parse(x, "7");
        for (int rule : new int[] {-1, 4, Checks.LOW, Checks.HIGH}) {
            Checks.refusedArgument(x, "keepRule(" + rule + ")", () -> x.keepRule(rule));
            Checks.refusedArgument(x, "ruleCost(" + rule + ")", () -> x.ruleCost(rule));
        }
        for (int rule = 0; rule < 4; rule++) {
            int r = rule;
            Checks.due("ruleCost(" + r + ")", () -> x.ruleCost(r), 36);
            Checks.dueKept("ruleCost(" + r + ")", x, "7");
        }
    }

    private static void rulesOfNoneAndOne() {
        Checks.sentence("A rule gives a sequence of all jobs");
        for (int rule = 0; rule < 4; rule++) {
            BatchMachine none = new BatchMachine();
            none.setObjective(4);
            dueRule("no jobs:", none, rule, "");
            Checks.due("cost() of no jobs", () -> none.cost(), 0);
            dueRule("one job:", Checks.machine(new int[] {3, 50, 300, 500, 9}), rule, "0");
            // All jobs, also those that the kept schedule leaves out.
            BatchMachine eight = Checks.equalJobs(8);
            Checks.parse(eight, "53");
            dueRule("eight jobs:", eight, rule, "01234567");
        }
    }

    private static void tiesOfRules() {
        Checks.sentence("ties always by ascending job numbers.");
        BatchMachine x = Checks.machine(
                new int[] {0, 4, 9, 8, 2}, new int[] {0, 2, 9, 8, 1}, new int[] {0, 6, 0, 7, 3},
                new int[] {0, 8, 0, 8, 4}, new int[] {0, 1, 9, 7, 1});
        dueRule("releases:", x, 0, "23014");
        dueRule("due dates:", x, 1, "24013");
        // 4/2, 2/1, 6/3 and 8/4 are equal, 1/1 is less.
        dueRule("times by weights:", x, 2, "40123");
        dueRule("families:", x, 3, "24013");
    }

    private static void exactFractions() {
        Checks.sentence("2 ascending processing time / weight (compared exactly as fractions);");
        // Rounded down all of them are 4: 44/9 = 4.88.., 39/8 = 4.875, 29/6 = 4.83.., 24/5 = 4.8.
        BatchMachine x = Checks.machine(
                new int[] {0, 44, 0, 0, 9}, new int[] {0, 39, 0, 0, 8}, new int[] {0, 29, 0, 0, 6},
                new int[] {0, 24, 0, 0, 5});
        dueRule("", x, 2, "3210");
        // Both ends of the range, and below 1: 1/9, 1/2, 2/3 and 50/1.
        BatchMachine y = Checks.machine(
                new int[] {0, 50, 0, 0, 1}, new int[] {0, 2, 0, 0, 3}, new int[] {0, 1, 0, 0, 2},
                new int[] {0, 1, 0, 0, 9});
        dueRule("", y, 2, "3210");
    }

    private static void dueDatesOfFamilies() {
        Checks.sentence("3 ascending due date of the family, where the due date of a family is the least due date of its jobs "
                + "(families with equal due dates by ascending family numbers), within a family ascending due dates;");
        BatchMachine x = Checks.machine(
                new int[] {3, 1, 0, 500, 1}, new int[] {2, 1, 0, 40, 1}, new int[] {0, 1, 0, 60, 1},
                new int[] {2, 1, 0, 10, 1}, new int[] {0, 1, 0, 10, 1}, new int[] {3, 1, 0, 0, 1},
                new int[] {1, 1, 0, 11, 1});
        dueRule("", x, 3, "50/42/31/6");
        // The least due date of the family is that of job 0, and it comes ahead of its family.
        BatchMachine z = Checks.machine(
                new int[] {1, 1, 0, 5, 1}, new int[] {0, 1, 0, 6, 1}, new int[] {1, 1, 0, 7, 1});
        dueRule("", z, 3, "02/1");
        dueRule("", z, 1, "0/1/2");
        // The greatest due date that there is.
        BatchMachine y = Checks.machine(new int[] {3, 1, 0, 500, 1}, new int[] {0, 1, 0, 500, 1});
        dueRule("", y, 3, "1/0");
    }

    private static void longestPieces() {
        Checks.sentence("Its schedule has as its batches the longest pieces of the sequence of jobs of one family.");
        BatchMachine x = Checks.machine(
                new int[] {0, 1, 5, 0, 1}, new int[] {0, 1, 1, 0, 1}, new int[] {1, 1, 3, 0, 1},
                new int[] {0, 1, 2, 0, 1}, new int[] {1, 1, 4, 0, 1}, new int[] {0, 1, 6, 0, 1});
        x.setMode(true, true);
        dueRule("", x, 0, "13/24/05");
        BatchMachine y = new BatchMachine();
        for (int j = 0; j < 8; j++) {
            y.addJob(j % 4, 1, j, 0, 1);
        }
        dueRule("", y, 0, "0/1/2/3/4/5/6/7");
    }

    private static void dueBest(String name, BatchMachine x, long cost, String want) {
        Checks.due(name + " bestCost()", () -> x.bestCost(), cost);
        Checks.due(name + " keepBest()", () -> x.keepBest(), cost);
        Checks.dueKept(name + " keepBest()", x, want);
        Checks.due(name + " cost()", () -> x.cost(), cost);
    }

    private static void bestOfNoneAndOne() {
        Checks.sentence("The best cost is the smallest cost of all complete schedules.");
        for (int mode = 0; mode < 4; mode++) {
            for (int objective = 0; objective < 6; objective++) {
                BatchMachine none = new BatchMachine();
                none.setMode(mode >= 2, mode % 2 == 1);
                none.setObjective(objective);
                dueBest("no jobs:", none, 0, "");
                BatchMachine one = Checks.machine(new int[] {3, 50, 0, 48, 9});
                one.setMode(mode >= 2, mode % 2 == 1);
                one.setObjective(objective);
                dueBest("one job:", one, new long[] {450, 18, 36, 9, 2, 50}[objective], "0");
            }
        }
    }

    private static void bestHasAllJobs() {
        Checks.sentence("A schedule is complete if it contains all jobs.");
        BatchMachine x = Checks.equalJobs(8);
        Checks.parse(x, "6");
        dueBest("eight jobs:", x, 36, "01234567");
        x.removeJob(7);
        dueBest("seven jobs:", x, 28, "0123456");
    }

    private static void bestWithItemAvailability() {
        Checks.sentence("with item availability, of all complete schedules with the best cost in which two batches "
                + "next to each other have different families, the one whose sequence of jobs (over all batches) "
                + "is lexicographically first;");
        // Any schedule costs 8: the first sequence, parted only where the families differ.
        BatchMachine x = Checks.machine(
                new int[] {1, 1, 0, 0, 1}, new int[] {1, 1, 0, 0, 1}, new int[] {0, 1, 0, 0, 1},
                new int[] {1, 1, 0, 0, 1}, new int[] {3, 1, 0, 0, 1}, new int[] {3, 1, 0, 0, 1},
                new int[] {3, 1, 0, 0, 1}, new int[] {2, 1, 0, 0, 1});
        x.setObjective(5);
        dueBest("", x, 8, "01/2/3/456/7");
        // With setups each family is one batch; job 0 first, and then the least job of another family.
        Checks.setAllSetups(x, 60);
        dueBest("", x, 188, "013/2/456/7");
        BatchMachine y = Checks.machine(new int[] {0, 2, 0, 0, 1}, new int[] {0, 1, 0, 0, 1});
        y.setObjective(0);
        dueBest("", y, 4, "10");
    }

    private static void bestWithBatchAvailability() {
        Checks.sentence("with batch availability, of all complete schedules with the best cost in which the jobs "
                + "of each batch are in ascending order, the one for which the sequence of the batches, "
                + "each as a bit set of its jobs, is lexicographically first (as numbers).");
        BatchMachine x = Checks.equalJobs(8);
        x.setMode(true, true);
        x.setObjective(5);
        // 1, 2, 4, ..: batches of one family next to each other are allowed here.
        dueBest("", x, 8, "0/1/2/3/4/5/6/7");
        Checks.setAllSetups(x, 60);
        dueBest("", x, 8, "01234567");
        // 127 is ahead of 128, though 7 alone has fewer jobs.
        x.setJob(7, 0, 1);
        dueBest("", x, 68, "0123456/7");
        // 2 is ahead of 253, though job 0 is the lowest.
        x.setJob(7, 0, 0);
        x.setJob(1, 0, 1);
        dueBest("", x, 68, "1/0234567");
        // The order in a batch changes no cost: it is ascending.
        BatchMachine y = Checks.machine(new int[] {0, 50, 300, 0, 1}, new int[] {0, 1, 0, 0, 9});
        y.setMode(true, true);
        y.setObjective(0);
        y.setSetup(-1, 0, 60);
        dueBest("", y, 9 * 61 + 350, "1/0");
        y.setJob(1, 2, 300);
        y.setSetup(0, 0, 60);
        dueBest("", y, 9 * 301 + 411, "1/0");
        y.setJob(1, 4, 1);
        dueBest("", y, 351 + 351, "01");
        // The batch waits for the greatest of its releases, whichever job has it.
        y.setJob(1, 2, 0);
        y.setObjective(5);
        y.setMode(true, false);
        y.setSetup(-1, 0, 0);
        dueBest("", y, 300 + 51, "01");
    }

    /** Jobs 0, 2, 4 and 6 of family 0, the others of family 1. */
    private static BatchMachine keeping(String text) {
        BatchMachine x = new BatchMachine();
        for (int j = 0; j < 8; j++) {
            x.addJob(j % 2, 1 + j, 0, 0, 1);
        }
        Checks.parse(x, text);
        return x;
    }

    private static void dueRemoved(String text, int job, String want) {
        BatchMachine x = keeping(text);
        x.removeJob(job);
        Checks.dueKept("removeJob(" + job + ") from " + text, x, want);
    }

    private static void removedFromTheKeptSchedule() {
        Checks.sentence("When a job is removed, it is removed from the kept schedule, too, and the numbers in it are adapted;");
        dueRemoved("0246/1357", 0, "135/0246");
        dueRemoved("0246/1357", 7, "0246/135");
        dueRemoved("6420/7531", 4, "520/6431");
        // A job that the kept schedule leaves out: the numbers are adapted all the same.
        dueRemoved("26/5", 0, "15/4");
        dueRemoved("26/5", 4, "25/4");
        dueRemoved("26/5", 7, "26/5");
        dueRemoved("", 3, "");
        // Its cost and its neighbors are those of the jobs that are left: times 1, 3 and 7.
        BatchMachine x = keeping("6420");
        x.removeJob(4);
        Checks.due("cost() behind removeJob(4)", () -> x.cost(), 7 + 10 + 11);
        Checks.due("improve(50) behind removeJob(4)", () -> x.improve(50), 3);
        Checks.dueKept("improve(50) behind removeJob(4)", x, "025");
    }

    private static void emptyBatchesDisappear() {
        Checks.sentence("a batch that becomes empty disappears.");
        dueRemoved("0/1/2/3", 0, "0/1/2");
        dueRemoved("0/1/2/3", 1, "0/1/2");
        dueRemoved("0/1/2/3", 3, "0/1/2");
        dueRemoved("7", 7, "");
        dueRemoved("0/1/2/3/4/5/6/7", 7, "0/1/2/3/4/5/6");
        // The document does not say that batches on both sides of it become one.
        BatchMachine x = keeping("02/1/46");
        x.setSetup(0, 0, 60);
        x.removeJob(1);
        Checks.dueKept("removeJob(1) from 02/1/46", x, "01/35");
        Checks.due("total(0)", () -> x.total(0), 60);
    }

    private static void changedFamilies() {
        Checks.sentence("When the family of a job changes, the kept schedule becomes empty.");
        BatchMachine x = keeping("02/1");
        Checks.due("setJob(0, 0, 3)", () -> x.setJob(0, 0, 3), 0);
        Checks.dueKept("setJob(0, 0, 3)", x, "");
        x.undo();
        Checks.dueKept("undo()", x, "02/1");
        x.setJob(7, 0, 0);
        Checks.dueKept("setJob(7, 0, 0)", x, "");
        x.undo();
        // A family that stays the same does not change.
        Checks.due("setJob(0, 0, 0)", () -> x.setJob(0, 0, 0), 0);
        Checks.dueKept("setJob(0, 0, 0)", x, "02/1");
    }

    private static void otherChanges() {
        Checks.sentence("One schedule is kept, initially the empty one.");
        BatchMachine x = keeping("02/1");
        x.removeJob(7);
        for (int what = 1; what < 5; what++) {
            x.setJob(0, what, 9);
            Checks.dueKept("setJob(0, " + what + ", 9)", x, "02/1");
        }
        x.addJob(0, 1, 0, 0, 1);
        x.setSetup(0, 0, 60);
        x.setMode(true, false);
        x.setObjective(5);
        Checks.dueKept("other changes", x, "02/1");
        // Its times follow the changes: 9 + 9 + 3, and job 1 behind it.
        Checks.dueBatch("other changes", x, 0, 0, 2, 9, 9, 9, 21);
        Checks.due("cost()", () -> x.cost(), 23);
    }

    private static void rangeOfSteps() {
        Checks.sentence("greatest number of steps, 0 to 50");
        BatchMachine x = Checks.machine(new int[] {0, 2, 0, 0, 1}, new int[] {0, 1, 0, 0, 1});
        Checks.parse(x, "01");
        for (int steps : new int[] {-1, 51, Checks.LOW, Checks.HIGH}) {
            Checks.refusedArgument(x, "improve(" + steps + ")", () -> x.improve(steps));
        }
        Checks.due("improve(0)", () -> x.improve(0), 0);
        Checks.dueKept("improve(0)", x, "01");
        Checks.due("improve(50)", () -> x.improve(50), 1);
        Checks.dueKept("improve(50)", x, "10");
    }

    private static void noStepPossible() {
        Checks.sentence("Makes steps of improvement until none is possible, or a number of them has been made.");
        BatchMachine none = new BatchMachine();
        Checks.due("improve(50) without jobs", () -> none.improve(50), 0);
        BatchMachine x = Checks.machine(new int[] {0, 2, 0, 0, 1}, new int[] {0, 1, 0, 0, 1});
        Checks.due("improve(50) of the empty schedule", () -> x.improve(50), 0);
        Checks.dueKept("improve(50) of the empty schedule", x, "");
        Checks.parse(x, "0");
        Checks.due("improve(50) of one job", () -> x.improve(50), 0);
        Checks.dueKept("improve(50) of one job", x, "0");
    }

    private static void smallerCostOnly() {
        Checks.sentence("the first neighbor with a smaller cost than the kept schedule becomes the kept schedule.");
        BatchMachine x = Checks.equalJobs(8);
        Checks.parse(x, "76543210");
        Checks.due("improve(50) of equal jobs", () -> x.improve(50), 0);
        Checks.dueKept("improve(50) of equal jobs", x, "76543210");
        // Not even the batches are joined, as that is no neighbor with a smaller cost.
        Checks.parse(x, "0/1/2");
        Checks.due("improve(50) of equal batches", () -> x.improve(50), 0);
        Checks.dueKept("improve(50) of equal batches", x, "0/1/2");
        Checks.sentence("and taking as batches the longest pieces of jobs of one family.");
        x.setSetup(0, 0, 1);
        Checks.due("improve(50) of batches with setups", () -> x.improve(50), 1);
        Checks.dueKept("improve(50) of batches with setups", x, "102");
    }

    private static void orderOfNeighbors() {
        Checks.sentence("A step of improvement goes through the exchanges for i from 0 on, and then through the moves, "
                + "for i from 0 on, and for each i for j from 0 on (j not equal to i);");
        // Each exchange makes it better; the one at the places 0 and 1 is the first.
        BatchMachine x = Checks.machine(
                new int[] {0, 3, 0, 0, 1}, new int[] {0, 2, 0, 0, 1}, new int[] {0, 1, 0, 0, 1});
        Checks.parse(x, "012");
        x.improve(1);
        Checks.dueKept("improve(1) of 012", x, "102");
        // Only the exchange at the last two places, which comes ahead of the moves of job 0.
        Checks.parse(x, "201");
        Checks.due("improve(1) of 201", () -> x.improve(1), 1);
        Checks.dueKept("improve(1) of 201", x, "210");
        movesOnly();
        movesToTheFront();
    }

    /** Families 0, 1, 1, 0 with setups: no exchange of 0/12/3 joins a family without parting another. */
    private static void movesOnly() {
        BatchMachine x = Checks.machine(
                new int[] {0, 1, 0, 0, 1}, new int[] {1, 1, 0, 0, 1}, new int[] {1, 1, 0, 0, 1},
                new int[] {0, 1, 0, 0, 1});
        Checks.setAllSetups(x, 10);
        x.setObjective(5);
        Checks.parse(x, "0/12/3");
        // Job 0 to the places 0 to 1 helps nothing; to 2 it does, ahead of place 3.
        Checks.due("improve(50) of 0/12/3", () -> x.improve(50), 1);
        Checks.dueKept("improve(50) of 0/12/3", x, "12/03");
    }

    /** The last job moves, as j goes from 0 on, to the front, though place 1 is as good. */
    private static void movesToTheFront() {
        BatchMachine x = Checks.machine(
                new int[] {0, 1, 0, 0, 1}, new int[] {1, 1, 0, 0, 1}, new int[] {2, 1, 0, 0, 1},
                new int[] {0, 1, 0, 0, 1});
        x.setObjective(5);
        x.setSetup(2, 0, 10);
        x.setSetup(1, 0, 10);
        x.setSetup(0, 1, 1);
        x.setSetup(0, 2, 30);
        Checks.parse(x, "0/1/2/3");
        Checks.due("improve(1) of 0/1/2/3", () -> x.improve(1), 1);
        Checks.dueKept("improve(1) of 0/1/2/3", x, "1/2/03");
        x.setSetup(-1, 1, 10);
        Checks.parse(x, "0/1/2/3");
        Checks.due("improve(1) of 0/1/2/3 with an initial setup", () -> x.improve(1), 1);
        Checks.dueKept("improve(1) of 0/1/2/3 with an initial setup", x, "30/1/2");
    }

    /** Each exchange takes away one of the 28 inversions. */
    private static void numberOfSteps() {
        Checks.sentence("Returns the number of steps that were made.");
        int[] steps = {0, 1, 27, 28, 29, 50};
        for (int most : steps) {
            BatchMachine x = new BatchMachine();
            for (int j = 0; j < 8; j++) {
                x.addJob(0, 8 - j, 0, 0, 1);
            }
            Checks.parse(x, "01234567");
            int made = Math.min(28, most);
            Checks.due("improve(" + most + ")", () -> x.improve(most), made);
            Checks.due("improve(50) behind improve(" + most + ")", () -> x.improve(50), 28 - made);
            Checks.dueKept("improve(50) behind improve(" + most + ")", x, "76543210");
        }
    }

    /** A machine on which 57 steps are possible. */
    private static BatchMachine farFromTheEnd() {
        BatchMachine x = Checks.machine(
                new int[] {2, 11, 284, 71, 8}, new int[] {3, 34, 16, 3, 3}, new int[] {3, 50, 190, 13, 3},
                new int[] {3, 27, 9, 382, 2}, new int[] {1, 8, 96, 33, 5}, new int[] {3, 38, 58, 420, 1},
                new int[] {0, 15, 69, 38, 1}, new int[] {2, 9, 287, 241, 3});
        int[] setups = {17, 30, 47, 12, 0, 4, 15, 16, 3, 4, 45, 3, 48, 26, 55, 10, 14, 13, 25, 28};
        for (int k = 0; k < 20; k++) {
            x.setSetup(k / 4 - 1, k % 4, setups[k]);
        }
        x.setMode(true, true);
        x.setObjective(2);
        Checks.parse(x, "70/35/6/21/4");
        return x;
    }

    private static void moreThanFiftySteps() {
        Checks.sentence("Makes steps of improvement until none is possible, or a number of them has been made.");
        BatchMachine x = farFromTheEnd();
        BatchMachine y = farFromTheEnd();
        for (int i = 0; i < 50; i++) {
            Checks.due("improve(1)", () -> y.improve(1), 1);
        }
        Checks.due("improve(50)", () -> x.improve(50), 50);
        Checks.dueKept("improve(50)", x, Checks.kept(y));
        Checks.due("improve(50) again", () -> x.improve(50), 7);
        Checks.due("improve(50) at the end", () -> x.improve(50), 0);
        BatchMachine z = farFromTheEnd();
        z.improve(7);
        Checks.due("improve(50) behind improve(7)", () -> z.improve(50), 50);
        Checks.dueKept("improve(50) behind improve(7)", z, Checks.kept(x));
    }
}
