import java.util.Random;

/** The exact search against all complete schedules of seven and eight jobs. */
public final class EightJobsTest {
    public static void main(String[] args) {
        for (int seed = 0; seed < 96; seed++) {
            compareOne(seed);
        }
        Checks.close();
    }

    private static void compareOne(int seed) {
        Random dice = new Random(seed);
        BatchMachine x = new BatchMachine();
        Model m = new Model();
        int count = seed % 8 == 0 ? 8 : 7;
        int families = 1 + dice.nextInt(4);
        int span = dice.nextInt(3) == 0 ? 5 : 60;
        for (int j = 0; j < count; j++) {
            int f = dice.nextInt(families);
            int p = 1 + dice.nextInt(Math.min(50, span));
            int r = dice.nextInt(2) * dice.nextInt(span * 3);
            int d = dice.nextInt(span * 5);
            int w = 1 + dice.nextInt(9);
            x.addJob(f, p, r, d, w);
            m.addJob(f, p, r, d, w);
        }
        for (int f = -1; f < 4; f++) {
            for (int g = 0; g < 4; g++) {
                int t = dice.nextInt(Math.min(61, span));
                x.setSetup(f, g, t);
                m.setSetup(f, g, t);
            }
        }
        boolean batch = seed / 6 % 2 == 0;
        boolean early = seed / 12 % 2 == 0;
        x.setMode(batch, early);
        m.setMode(batch, early);
        x.setObjective(seed % 6);
        m.setObjective(seed % 6);
        String name = "seed " + seed + " ";
        Checks.due(name + "bestCost()", () -> x.bestCost(), m.bestCost());
        for (int job = 0; job < count; job++) {
            int first = job;
            Checks.due(name + "bestWithFirst(" + first + ")",
                    () -> x.bestWithFirst(first), m.bestWithFirst(first));
        }
        Checks.due(name + "keepBest()", () -> x.keepBest(), m.keepBest());
        Checks.due(name + "digest()", () -> x.digest(), m.digest());
        Checks.due(name + "setupPrice()", () -> x.setupPrice(), m.setupPrice());
        Checks.due(name + "bestWithout(0)", () -> x.bestWithout(0), m.bestWithout(0));
        for (int job = 0; job < count; job++) {
            compareRelease(name, x, m, job);
        }
    }

    /** To go through all schedules for each release would take too long: the two next to the edge do. */
    private static void compareRelease(String name, BatchMachine x, Model m, int job) {
        int present = m.job(job, 2);
        int limit = Math.min(present + 100, 300);
        int latest = x.latestRelease(job);
        String call = name + "latestRelease(" + job + ") = " + latest;
        Checks.compare(call + " is within its range",
                "" + (latest >= present && latest <= limit), "true");
        Checks.due(call + ": best cost with it", () -> bestWith(x, job, latest), m.bestCost());
        if (latest < limit) {
            Checks.compare(call + " is the latest",
                    "" + (bestWith(x, job, latest + 1) != m.bestCost()), "true");
        }
    }

    private static long bestWith(BatchMachine x, int job, int release) {
        x.setJob(job, 2, release);
        long best = x.bestCost();
        x.undo();
        return best;
    }
}
