import java.util.Random;

/** The exact search against all complete schedules of seven and eight jobs. */
public final class EightJobsTest {
    public static void main(String[] args) {
        for (int seed = 0; seed < 96; seed++) {
            compareOne(seed);
        }
        for (int seed = 0; seed < 4000; seed++) {
            searchOne(seed);
        }
        Checks.close();
    }

    /**
     * Many more machines, by what their answers say of one another: rare ones need more than
     * the search has room to remember, and must neither throw nor lose a schedule by that.
     */
    private static void searchOne(int seed) {
        Random dice = new Random(seed);
        BatchMachine x = new BatchMachine();
        Model m = new Model();
        int span = dice.nextInt(3) == 0 ? 5 : 60;
        fill(x, m, dice, 8, span);
        setUp(x, m, dice.nextBoolean(), dice.nextBoolean(), dice.nextInt(6));
        String name = "machine " + seed + " ";
        compareSteps(name, x, m, dice.nextInt(4), dice.nextInt(51));
        Checks.due(name + "keepBest() - bestCost()", () -> x.keepBest() - x.bestCost(), 0);
        Checks.due(name + "cost() - bestCost()", () -> x.cost() - x.bestCost(), 0);
        Checks.due(name + "least bestWithFirst() - bestCost()", () -> leastWithFirst(x) - x.bestCost(), 0);
    }

    /** Small spans make ties. */
    private static void fill(BatchMachine x, Model m, Random dice, int count, int span) {
        int families = 1 + dice.nextInt(4);
        for (int j = 0; j < count; j++) {
            int f = dice.nextInt(families);
            int p = 1 + dice.nextInt(Math.min(50, span));
            int r = dice.nextInt(2) * dice.nextInt(span * 3);
            int d = dice.nextInt(span * 5);
            int w = 1 + dice.nextInt(9);
            x.addJob(f, p, r, d, w);
            m.addJob(f, p, r, d, w);
        }
        for (int k = 0; k < 20; k++) {
            int t = dice.nextInt(Math.min(61, span));
            x.setSetup(k / 4 - 1, k % 4, t);
            m.setSetup(k / 4 - 1, k % 4, t);
        }
    }

    private static void setUp(BatchMachine x, Model m, boolean batch, boolean early, int objective) {
        x.setMode(batch, early);
        m.setMode(batch, early);
        x.setObjective(objective);
        m.setObjective(objective);
    }

    private static void compareSteps(String name, BatchMachine x, Model m, int rule, int steps) {
        Checks.due(name + "keepRule(" + rule + ")", () -> x.keepRule(rule), m.keepRule(rule));
        Checks.due(name + "improve(" + steps + ")", () -> x.improve(steps), m.improve(steps));
        Checks.due(name + "improve(50)", () -> x.improve(50), m.improve(50));
        Checks.dueKept(name + "improve(50)", x, m.keptText());
    }

    private static long leastWithFirst(BatchMachine x) {
        long least = Long.MAX_VALUE;
        for (int job = 0; job < x.jobs(); job++) {
            least = Math.min(least, x.bestWithFirst(job));
        }
        return least;
    }

    private static void compareOne(int seed) {
        Random dice = new Random(seed);
        BatchMachine x = new BatchMachine();
        Model m = new Model();
        int count = seed % 8 == 0 ? 8 : 7;
        fill(x, m, dice, count, dice.nextInt(3) == 0 ? 5 : 60);
        setUp(x, m, seed / 6 % 2 == 0, seed / 12 % 2 == 0, seed % 6);
        String name = "seed " + seed + " ";
        Checks.due(name + "bestCost()", () -> x.bestCost(), m.bestCost());
        for (int job = 0; job < count; job++) {
            int first = job;
            Checks.due(name + "bestWithFirst(" + first + ")",
                    () -> x.bestWithFirst(first), m.bestWithFirst(first));
        }
        Checks.due(name + "keepBest()", () -> x.keepBest(), m.keepBest());
        Checks.due(name + "digest()", () -> x.digest(), m.digest());
        Checks.due(name + "setupPrice()", () -> x.setupPrice(), m.setupPrice());
        Checks.due(name + "bestWithout(0)", () -> x.bestWithout(0), m.bestWithout(0));
        for (int job = 0; job < count; job++) {
            compareRelease(name, x, m, job);
        }
    }

    /** To go through all schedules for each release would take too long: the two next to the edge do. */
    private static void compareRelease(String name, BatchMachine x, Model m, int job) {
        int present = m.job(job, 2);
        int limit = Math.min(present + 100, 300);
        int latest = x.latestRelease(job);
        String call = name + "latestRelease(" + job + ") = " + latest;
        Checks.compare(call + " is within its range",
                "" + (latest >= present && latest <= limit), "true");
        Checks.due(call + ": best cost with it", () -> bestWith(x, job, latest), m.bestCost());
        if (latest < limit) {
            Checks.compare(call + " is the latest",
                    "" + (bestWith(x, job, latest + 1) != m.bestCost()), "true");
        }
    }

    private static long bestWith(BatchMachine x, int job, int release) {
        x.setJob(job, 2, release);
        long best = x.bestCost();
        x.undo();
        return best;
    }
}
