import java.util.Random;

/** Long runs of calls against the model; the seeds are fixed, so every run is the same each time. */
public final class RandomRunsTest {
    /** What an object answers behind so many calls is free. */
    private static final int CALLS_OF_AN_OBJECT = 512;

    private final Random dice;
    private final BatchMachine x = new BatchMachine();
    private final Model m = new Model();
    private final int most;
    private final int span;
    private final int families;
    private final String run;
    private int calls = 0;

    private RandomRunsTest(int seed, int most) {
        dice = new Random(seed);
        this.most = most;
        // Small spans make ties, on which the order of best schedules and rules depends.
        int[] spans = {2, 10, 50, 1000};
        span = spans[dice.nextInt(spans.length)];
        families = 1 + dice.nextInt(4);
        run = "seed " + seed + " call ";
    }

    public static void main(String[] args) {
        for (int seed = 0; seed < 1200 && !Checks.anyWrong(); seed++) {
            new RandomRunsTest(seed, 1 + seed % 5).go(CALLS_OF_AN_OBJECT);
        }
        for (int seed = 1000; seed < 1030 && !Checks.anyWrong(); seed++) {
            new RandomRunsTest(seed, 6).go(60);
        }
        Checks.close();
    }

    private void go(int steps) {
        for (int i = 0; i < steps && calls < CALLS_OF_AN_OBJECT && !Checks.anyWrong(); i++) {
            step(dice.nextInt(100));
        }
    }

    private void ask(String name, Checks.Call call, Checks.Call model) {
        if (calls >= CALLS_OF_AN_OBJECT) {
            return;
        }
        calls++;
        Checks.compare(run + calls + ": " + name, Checks.answerOf(call), Checks.answerOf(model));
    }

    /** Mostly within the range, sometimes one step outside. */
    private int value(int low, int high) {
        if (dice.nextInt(60) == 0) {
            return dice.nextBoolean() ? low - 1 : high + 1;
        }
        return low + dice.nextInt(Math.min(high - low, span) + 1);
    }

    private int jobNumber() {
        return dice.nextInt(25) == 0 ? m.jobs.size() : dice.nextInt(40) == 0 ? -1
                : dice.nextInt(Math.max(1, m.jobs.size()));
    }

    private void step(int kind) {
        if (kind < 12) {
            if (m.jobs.size() < most) {
                int f = dice.nextInt(60) == 0 ? 4 : dice.nextInt(families);
                int p = value(1, 50);
                int r = value(0, 300);
                int d = value(0, 500);
                int w = value(1, 9);
                ask("addJob(" + f + ", " + p + ", " + r + ", " + d + ", " + w + ")",
                        () -> x.addJob(f, p, r, d, w), () -> m.addJob(f, p, r, d, w));
            }
        } else if (kind < 14) {
            int j = jobNumber();
            ask("removeJob(" + j + ")", () -> x.removeJob(j), () -> m.removeJob(j));
        } else if (kind < 20) {
            setJob();
        } else if (kind < 28) {
            int f = value(-1, 3);
            int g = value(0, 3);
            int t = value(0, 60);
            ask("setSetup(" + f + ", " + g + ", " + t + ")",
                    () -> x.setSetup(f, g, t), () -> m.setSetup(f, g, t));
        } else if (kind < 31) {
            boolean b = dice.nextBoolean();
            boolean e = dice.nextBoolean();
            ask("setMode(" + b + ", " + e + ")", () -> x.setMode(b, e), () -> m.setMode(b, e));
        } else if (kind < 35) {
            int o = dice.nextInt(20) == 0 ? 6 : dice.nextInt(6);
            ask("setObjective(" + o + ")", () -> x.setObjective(o), () -> m.setObjective(o));
        } else if (kind < 50) {
            text();
        } else if (kind < 56) {
            ask("undo()", () -> x.undo(), () -> m.undo());
        } else if (kind < 65) {
            keep();
        } else if (kind < 85) {
            exact(kind);
        } else {
            look();
        }
        ask("digest()", () -> x.digest(), () -> m.digest());
    }

    private void setJob() {
        int j = jobNumber();
        int what = value(0, 4);
        int[] low = {0, 1, 0, 0, 1};
        int[] high = {3, 50, 300, 500, 9};
        int value = what < 0 || what > 4 ? 1 : value(low[what], high[what]);
        ask("setJob(" + j + ", " + what + ", " + value + ")",
                () -> x.setJob(j, what, value), () -> m.setJob(j, what, value));
    }

    private void text() {
        if (dice.nextInt(3) > 0) {
            ask("clearText()", () -> x.clearText(), () -> m.clearText());
        }
        int length = dice.nextInt(2 * m.jobs.size() + 3);
        for (int i = 0; i < length; i++) {
            int c = dice.nextInt(3) == 0 ? '/' : dice.nextInt(40) == 0 ? dice.nextInt(130) - 1
                    : '0' + dice.nextInt(m.jobs.size() + 1);
            ask("append(" + c + ")", () -> x.append(c), () -> m.append(c));
            ask("parse()", () -> x.parse(), () -> m.parse());
        }
    }

    private void keep() {
        int kind = dice.nextInt(3);
        if (kind == 0) {
            int rule = value(0, 3);
            ask("keepRule(" + rule + ")", () -> x.keepRule(rule), () -> m.keepRule(rule));
        } else if (kind == 1) {
            ask("keepBest()", () -> x.keepBest(), () -> m.keepBest());
        } else {
            int steps = dice.nextBoolean() ? value(0, 50) : dice.nextInt(3);
            ask("improve(" + steps + ")", () -> x.improve(steps), () -> m.improve(steps));
        }
    }

    private void exact(int kind) {
        int j = jobNumber();
        if (kind < 69) {
            ask("bestCost()", () -> x.bestCost(), () -> m.bestCost());
        } else if (kind < 73) {
            ask("bestWithout(" + j + ")", () -> x.bestWithout(j), () -> m.bestWithout(j));
        } else if (kind < 77) {
            ask("bestWithFirst(" + j + ")", () -> x.bestWithFirst(j), () -> m.bestWithFirst(j));
        } else if (kind < 79) {
            if (m.jobs.size() < 6) {
                ask("latestRelease(" + j + ")", () -> x.latestRelease(j), () -> m.latestRelease(j));
            }
        } else if (kind < 82) {
            ask("setupPrice()", () -> x.setupPrice(), () -> m.setupPrice());
        } else {
            int rule = value(0, 3);
            ask("ruleCost(" + rule + ")", () -> x.ruleCost(rule), () -> m.ruleCost(rule));
        }
    }

    private void look() {
        int j = jobNumber();
        int b = dice.nextInt(m.kept.size() + 2) - 1;
        int w = dice.nextInt(9) - 1;
        ask("jobs()", () -> x.jobs(), () -> m.jobs.size());
        ask("batches()", () -> x.batches(), () -> m.kept.size());
        ask("cost()", () -> x.cost(), () -> m.times(m.kept).cost);
        ask("job(" + j + ", " + w + ")", () -> x.job(j, w), () -> m.job(j, w));
        ask("batch(" + b + ", " + w + ")", () -> x.batch(b, w), () -> m.batch(b, w));
        ask("jobAt(" + b + ", " + w + ")", () -> x.jobAt(b, w), () -> m.jobAt(b, w));
        ask("planned(" + j + ", " + w + ")", () -> x.planned(j, w), () -> m.planned(j, w));
        ask("total(" + w + ")", () -> x.total(w), () -> m.total(w));
    }
}
