/** Promises 22 to 27: each sentence that names a boundary case. */
public final class ExactBoundaryTest {
    public static void main(String[] args) {
        noSuchJob();
        bestCostOfGreatestValues();
        bestCostFollowsEachChange();
        withoutTheOnlyJob();
        withoutOneOfEight();
        firstOfOne();
        firstOfEight();
        firstWhereNoRuleIsBest();
        firstInAWholeBatch();
        hundredMore();
        upToThreeHundred();
        presentRelease();
        stillThePresentBestCost();
        latestReleaseOfEight();
        priceWithoutJobs();
        priceOfInitialSetups();
        priceBetweenFamilies();
        priceOfEachPair();
        priceLeavesOneFamily();
        nothingChanges();
        Checks.close();
    }

    private static void noSuchJob() {
        Checks.sentence("Throws `IndexOutOfBoundsException` if there is no such job");
        for (int count : new int[] {0, 1, 8}) {
            BatchMachine x = Checks.equalJobs(count);
            for (int job : new int[] {-1, count, Checks.LOW, Checks.HIGH}) {
                String of = "(" + job + ") of " + count;
                Checks.refusedIndex(x, "bestWithout" + of, () -> x.bestWithout(job));
                Checks.refusedIndex(x, "bestWithFirst" + of, () -> x.bestWithFirst(job));
                Checks.refusedIndex(x, "latestRelease" + of, () -> x.latestRelease(job));
            }
        }
    }

    private static void bestCostOfGreatestValues() {
        Checks.sentence("Returns the best cost.");
        BatchMachine x = new BatchMachine();
        for (int j = 0; j < 8; j++) {
            x.addJob(j % 2 * 3, 50, 300, 0, 9);
        }
        Checks.setAllSetups(x, 60);
        x.setSetup(-1, 0, 60);
        x.setSetup(-1, 3, 60);
        x.setObjective(5);
        Checks.due("bestCost()", () -> x.bestCost(), 300 + 8 * 50 + 60);
        x.setMode(true, false);
        Checks.due("bestCost() without early setups", () -> x.bestCost(), 300 + 8 * 50 + 2 * 60);
        // All of them are late.
        x.setObjective(3);
        Checks.due("bestCost() of the weights", () -> x.bestCost(), 72);
        x.setMode(false, true);
        x.setObjective(2);
        long squares = 0;
        for (int k = 1; k <= 4; k++) {
            squares += 9L * (300 + 50 * k) * (300 + 50 * k) + 9L * (560 + 50 * k) * (560 + 50 * k);
        }
        long want = squares;
        Checks.due("bestCost() of the squares", () -> x.bestCost(), want);
    }

    private static void bestCostFollowsEachChange() {
        Checks.sentence("The best cost is the smallest cost of all complete schedules.");
        BatchMachine x = Checks.machine(new int[] {0, 10, 0, 0, 2});
        Checks.due("bestCost()", () -> x.bestCost(), 20);
        x.addJob(1, 1, 0, 0, 1);
        Checks.due("bestCost() behind addJob", () -> x.bestCost(), 1 + 2 * 11);
        x.setSetup(1, 0, 3);
        Checks.due("bestCost() behind setSetup", () -> x.bestCost(), 1 + 2 * 14);
        x.setJob(0, 1, 9);
        Checks.due("bestCost() behind setJob", () -> x.bestCost(), 1 + 2 * 13);
        x.setObjective(5);
        Checks.due("bestCost() behind setObjective", () -> x.bestCost(), 10);
        x.setJob(0, 2, 50);
        Checks.due("bestCost() behind setJob of a release", () -> x.bestCost(), 59);
        x.setMode(false, false);
        x.setSetup(0, 1, 1);
        Checks.due("bestCost() behind setMode", () -> x.bestCost(), 61);
        x.undo();
        Checks.due("bestCost() behind undo()", () -> x.bestCost(), 60);
        x.removeJob(0);
        Checks.due("bestCost() behind removeJob", () -> x.bestCost(), 1);
        x.removeJob(0);
        Checks.due("bestCost() behind removeJob of the last one", () -> x.bestCost(), 0);
    }

    private static void withoutTheOnlyJob() {
        Checks.sentence("Returns the best cost that there would be without a job.");
        for (int objective = 0; objective < 6; objective++) {
            BatchMachine x = Checks.machine(new int[] {0, 50, 300, 0, 9});
            x.setObjective(objective);
            Checks.due("bestWithout the only job, objective " + objective, () -> x.bestWithout(0), 0);
            Checks.due("jobs()", () -> x.jobs(), 1);
        }
    }

    private static void withoutOneOfEight() {
        Checks.sentence("Returns the best cost that there would be without a job.");
        BatchMachine x = new BatchMachine();
        for (int j = 0; j < 8; j++) {
            x.addJob(0, 1 + j, 0, 0, 1);
        }
        x.setObjective(5);
        for (int job = 0; job < 8; job++) {
            int j = job;
            Checks.due("bestWithout(" + j + ")", () -> x.bestWithout(j), 36 - (1 + j));
        }
        Checks.due("bestCost()", () -> x.bestCost(), 36);
    }

    private static void firstOfOne() {
        Checks.sentence("Returns the smallest cost of the complete schedules whose first job is a given one.");
        BatchMachine x = Checks.machine(new int[] {3, 50, 0, 48, 9});
        long[] want = {450, 18, 36, 9, 2, 50};
        for (int objective = 0; objective < 6; objective++) {
            x.setObjective(objective);
            Checks.due("bestWithFirst(0), objective " + objective, () -> x.bestWithFirst(0), want[objective]);
        }
    }

    private static void firstOfEight() {
        Checks.sentence("Returns the smallest cost of the complete schedules whose first job is a given one.");
        BatchMachine x = new BatchMachine();
        for (int j = 0; j < 8; j++) {
            x.addJob(0, 1 + j, 0, 0, 1);
        }
        // Sorted they cost 8 * 1 + 7 * 2 + .. + 1 * 8 = 120; job j ahead of the j shorter ones adds
        // 1 + j to each of them, and takes each of their times from its own completion.
        for (int job = 0; job < 8; job++) {
            int j = job;
            int more = j * (1 + j) - j * (j + 1) / 2;
            Checks.due("bestWithFirst(" + j + ")", () -> x.bestWithFirst(j), 120 + more);
        }
        Checks.due("bestCost()", () -> x.bestCost(), 120);
    }

    /** All rules give 0, 1, 2, and with the first job ahead of it a sequence that is not the best. */
    private static void firstWhereNoRuleIsBest() {
        Checks.sentence("Returns the smallest cost of the complete schedules whose first job is a given one.");
        BatchMachine x = Checks.machine(
                new int[] {0, 1, 0, 0, 1}, new int[] {1, 1, 0, 0, 1}, new int[] {2, 1, 0, 0, 1});
        x.setObjective(5);
        Checks.setAllSetups(x, 60);
        x.setSetup(0, 2, 1);
        x.setSetup(2, 1, 2);
        x.setSetup(1, 2, 3);
        x.setSetup(2, 0, 4);
        Checks.due("bestWithFirst(0), by 0/2/1", () -> x.bestWithFirst(0), 3 + 1 + 2);
        Checks.due("bestWithFirst(1), by 1/2/0", () -> x.bestWithFirst(1), 3 + 3 + 4);
        Checks.due("bestWithFirst(2), by 2/1/0", () -> x.bestWithFirst(2), 3 + 2 + 60);
        x.setMode(true, true);
        Checks.due("bestWithFirst(1) of batches", () -> x.bestWithFirst(1), 3 + 3 + 4);
    }

    private static void firstInAWholeBatch() {
        Checks.sentence("a batch is a sequence of at least one job of one family.");
        // Any job of the first batch can be its first one, as the order in it is free.
        BatchMachine x = Checks.equalJobs(8);
        x.setMode(true, true);
        x.setSetup(0, 0, 60);
        x.setObjective(5);
        for (int job = 0; job < 8; job++) {
            int j = job;
            Checks.due("bestWithFirst(" + j + ")", () -> x.bestWithFirst(j), 8);
        }
    }

    private static void dueLatest(int release, int due, int want) {
        BatchMachine x = Checks.machine(new int[] {0, 10, release, due, 1});
        Checks.due("latestRelease of release " + release + " and due date " + due, () -> x.latestRelease(0), want);
        Checks.due("job(0, 2)", () -> x.job(0, 2), release);
    }

    private static void hundredMore() {
        Checks.sentence("Returns the latest release time of a job, from its present one up to 100 more (and up to 300), "
                + "with which the best cost is still the present one.");
        dueLatest(0, 500, 100);
        dueLatest(0, 111, 100);
        dueLatest(0, 110, 100);
        dueLatest(0, 109, 99);
        dueLatest(0, 108, 98);
        dueLatest(50, 300, 150);
        dueLatest(50, 160, 150);
        dueLatest(50, 159, 149);
        dueLatest(199, 500, 299);
    }

    private static void upToThreeHundred() {
        Checks.sentence("(and up to 300)");
        dueLatest(200, 500, 300);
        dueLatest(201, 500, 300);
        dueLatest(250, 500, 300);
        dueLatest(299, 500, 300);
        dueLatest(300, 500, 300);
        dueLatest(201, 310, 300);
        dueLatest(201, 309, 299);
    }

    private static void presentRelease() {
        Checks.sentence("(the present one if one more already changes the best cost)");
        dueLatest(0, 10, 0);
        dueLatest(0, 11, 1);
        dueLatest(70, 80, 70);
        dueLatest(70, 0, 70);
        dueLatest(299, 309, 299);
        dueLatest(299, 310, 300);
        BatchMachine x = Checks.machine(new int[] {0, 1, 0, 500, 1});
        for (int objective : new int[] {0, 4, 5}) {
            x.setObjective(objective);
            Checks.due("latestRelease(0), objective " + objective, () -> x.latestRelease(0), 0);
        }
    }

    private static void stillThePresentBestCost() {
        Checks.sentence("all release times from the present one to it leave the best cost.");
        // A job that is late anyway: by the weights it can be as late as it likes.
        BatchMachine x = Checks.machine(new int[] {0, 10, 0, 9, 7});
        x.setObjective(3);
        Checks.due("latestRelease(0) of a late job", () -> x.latestRelease(0), 100);
        // Either of two equal jobs can be the second one.
        BatchMachine y = Checks.machine(new int[] {0, 10, 0, 20, 1}, new int[] {0, 10, 0, 20, 1});
        Checks.due("latestRelease(0) of two", () -> y.latestRelease(0), 10);
        Checks.due("latestRelease(1) of two", () -> y.latestRelease(1), 10);
        // The setup is in time as long as it may be early.
        y.setJob(1, 0, 1);
        y.setSetup(0, 1, 5);
        y.setJob(1, 3, 30);
        Checks.due("latestRelease(1) with a setup", () -> y.latestRelease(1), 20);
        y.setMode(false, false);
        Checks.due("latestRelease(1) without early setups", () -> y.latestRelease(1), 15);
    }

    private static void latestReleaseOfEight() {
        Checks.sentence("from its present one up to 100 more (and up to 300)");
        BatchMachine x = new BatchMachine();
        for (int j = 0; j < 8; j++) {
            x.addJob(j % 4, 10, 0, 80, 1);
        }
        for (int job = 0; job < 8; job++) {
            int j = job;
            Checks.due("latestRelease(" + j + ")", () -> x.latestRelease(j), 70);
        }
        x.setObjective(5);
        Checks.due("latestRelease(7), objective 5", () -> x.latestRelease(7), 70);
        x.setMode(true, true);
        Checks.due("latestRelease(7) of batches", () -> x.latestRelease(7), 70);
    }

    private static void duePrice(BatchMachine x, String name, long want) {
        Checks.due("setupPrice() " + name, () -> x.setupPrice(), want);
    }

    private static void priceWithoutJobs() {
        Checks.sentence("Returns the present best cost minus that best cost.");
        BatchMachine x = new BatchMachine();
        x.setSetup(-1, 0, 60);
        x.setSetup(0, 1, 60);
        for (int objective = 0; objective < 6; objective++) {
            x.setObjective(objective);
            duePrice(x, "without jobs, objective " + objective, 0);
        }
        duePrice(Checks.equalJobs(8), "without setups", 0);
    }

    private static void priceOfInitialSetups() {
        Checks.sentence("and all initial ones, were 0.");
        for (int family = 0; family < 4; family++) {
            BatchMachine one = Checks.machine(new int[] {family, 10, 0, 0, 1});
            one.setObjective(5);
            one.setSetup(-1, family, 7);
            duePrice(one, "of an initial setup of family " + family, 7);
        }
        BatchMachine x = Checks.machine(new int[] {3, 10, 0, 0, 1});
        x.setObjective(5);
        x.setSetup(-1, 3, 60);
        duePrice(x, "of an initial setup", 60);
        // Early setups cost nothing up to the release.
        x.setJob(0, 2, 59);
        duePrice(x, "of an initial setup one later than the release", 1);
        x.setJob(0, 2, 60);
        duePrice(x, "of an initial setup up to the release", 0);
        x.setMode(false, false);
        duePrice(x, "of an initial setup that may not be early", 60);
        x.setObjective(4);
        x.setJob(0, 3, 500);
        duePrice(x, "with costs below 0", 60);
    }

    private static void priceBetweenFamilies() {
        Checks.sentence("Returns by how much the best cost would change if all setup times between different families, "
                + "and all initial ones, were 0.");
        BatchMachine x = Checks.machine(new int[] {0, 10, 0, 0, 1}, new int[] {3, 10, 0, 0, 1});
        x.setObjective(5);
        x.setSetup(0, 3, 60);
        duePrice(x, "of one way", 0);
        x.setSetup(3, 0, 59);
        duePrice(x, "of both ways", 59);
        x.setSetup(-1, 3, 2);
        duePrice(x, "of both ways and an initial one", 60);
    }

    /** The release of the second job settles the order, at 157 with the setup and at 150 without. */
    private static void priceOfEachPair() {
        Checks.sentence("if all setup times between different families");
        for (int from = 0; from < 4; from++) {
            for (int to = 0; to < 4; to++) {
                BatchMachine x = Checks.machine(new int[] {from, 1, 0, 0, 1}, new int[] {to, 50, 100, 0, 1});
                x.setObjective(5);
                x.setMode(false, false);
                x.setSetup(to, from, 60);
                x.setSetup(from, to, 7);
                duePrice(x, "from " + from + " to " + to, from == to ? 0 : 7);
            }
        }
    }

    private static void priceLeavesOneFamily() {
        Checks.sentence("if all setup times between different families");
        // Two batches of one family pay here, with the setup between them as it is: 10 and 30 with 5.
        BatchMachine x = Checks.machine(new int[] {1, 10, 0, 0, 9}, new int[] {1, 15, 0, 0, 1});
        x.setMode(true, true);
        x.setObjective(0);
        x.setSetup(1, 1, 5);
        Checks.due("bestCost()", () -> x.bestCost(), 9 * 10 + 30);
        duePrice(x, "of one family", 0);
        x.setSetup(-1, 1, 1);
        duePrice(x, "of one family and an initial setup", 10);
    }

    private static void nothingChanges() {
        Checks.sentence("Nothing is promised beyond the answers and state changes described above");
        BatchMachine x = Checks.equalJobs(8);
        Checks.parse(x, "0/1");
        long before = x.digest();
        for (int job = 0; job < 8; job++) {
            x.bestWithout(job);
            x.bestWithFirst(job);
            x.latestRelease(job);
        }
        x.bestCost();
        x.ruleCost(0);
        x.setupPrice();
        Checks.due("digest()", () -> x.digest(), before);
        Checks.dueKept("what-if queries", x, "0/1");
    }
}
