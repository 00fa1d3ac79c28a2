/** Each promise by hand-worked answers: ordinary inputs, the edges, and wrong inputs. */
public final class PromisesTest {
    private static final int LOW = Checks.LOW;
    private static final int HIGH = Checks.HIGH;

    public static void main(String[] args) {
        promise1NewObject();
        promise2AddJob();
        promise3RemoveJob();
        promise4SetJob();
        promise5And6Job();
        promise7SetSetup();
        promise8SetMode();
        promise9SetObjective();
        promise10And11Text();
        promise12Parse();
        promise13And23Rules();
        promise14KeepBest();
        promise15Improve();
        promise16To18Batches();
        promise19Planned();
        promise20Cost();
        promise21Total();
        promise22BestCost();
        promise24BestWithout();
        promise25BestWithFirst();
        promise26LatestRelease();
        promise27SetupPrice();
        promise28Undo();
        promise29Digest();
        Checks.close();
    }

    /** Three jobs of two families; "01/2" runs 3-13, 20-25, 31-35. */
    private static BatchMachine sample() {
        BatchMachine x = new BatchMachine();
        x.addJob(0, 10, 0, 12, 2);
        x.addJob(0, 5, 20, 18, 3);
        x.addJob(1, 4, 0, 40, 1);
        x.setSetup(-1, 0, 3);
        x.setSetup(0, 1, 6);
        x.setSetup(1, 0, 7);
        return x;
    }

    /** The digest ends with the number of saved states, of which the oldest may have been dropped. */
    private static void dueUndo(String name, BatchMachine x, long digest, int dropped) {
        x.undo();
        Checks.due(name + ", undone: digest()", () -> x.digest(), digest - dropped);
    }

    private static void promise1NewObject() {
        BatchMachine x = new BatchMachine();
        Checks.due("NONE", () -> BatchMachine.NONE, -1);
        Checks.due("new: jobs()", () -> x.jobs(), 0);
        Checks.due("new: batches()", () -> x.batches(), 0);
        Checks.due("new: cost()", () -> x.cost(), 0);
        Checks.due("new: bestCost()", () -> x.bestCost(), 0);
        Checks.due("new: total(2)", () -> x.total(2), 0);
        Checks.due("new: clearText()", () -> x.clearText(), 0);
        Checks.dueIllegalState("new: undo()", () -> x.undo());
        for (int from = -1; from < 4; from++) {
            for (int to = 0; to < 4; to++) {
                int f = from;
                int t = to;
                Checks.due("new: setSetup(" + f + ", " + t + ", 1)", () -> x.setSetup(f, t, 1), 0);
            }
        }
        Checks.due("new: setMode(true, false)", () -> x.setMode(true, false), 1);
        Checks.due("new: setObjective(0)", () -> x.setObjective(0), 1);
    }

    private static void promise2AddJob() {
        BatchMachine x = new BatchMachine();
        int[] least = {0, 1, 0, 0, 1};
        int[] greatest = {3, 50, 300, 500, 9};
        Checks.due("addJob least", () -> x.addJob(0, 1, 0, 0, 1), 0);
        Checks.due("addJob greatest", () -> x.addJob(3, 50, 300, 500, 9), 1);
        long before = x.digest();
        for (int what = 0; what < 5; what++) {
            int[] wrong = {least[what] - 1, greatest[what] + 1, LOW, HIGH};
            for (int value : wrong) {
                int[] v = {1, 1, 1, 1, 1};
                v[what] = value;
                Checks.dueIllegalArgument("addJob with value " + what + " = " + value,
                        () -> x.addJob(v[0], v[1], v[2], v[3], v[4]));
            }
        }
        Checks.due("addJob thrown: digest()", () -> x.digest(), before);
        for (int i = 2; i < 8; i++) {
            Checks.due("addJob " + i, () -> x.addJob(1, 1, 1, 1, 1), i);
        }
        long full = x.digest();
        Checks.dueIllegalState("addJob ninth", () -> x.addJob(0, 1, 0, 0, 1));
        Checks.dueIllegalArgument("addJob ninth and wrong", () -> x.addJob(0, 1, 0, 0, 0));
        Checks.due("addJob ninth: digest()", () -> x.digest(), full);
        Checks.due("addJob: undo()", () -> x.undo(), 3);
        Checks.due("addJob undone: jobs()", () -> x.jobs(), 7);
        Checks.due("addJob again", () -> x.addJob(2, 1, 1, 1, 1), 7);
        BatchMachine y = sample();
        Checks.parse(y, "01/2");
        y.addJob(0, 1, 0, 0, 1);
        Checks.dueKept("addJob leaves the kept schedule: it", y, "01/2");
    }

    private static void promise3RemoveJob() {
        BatchMachine x = new BatchMachine();
        x.addJob(0, 1, 0, 10, 1);
        x.addJob(1, 2, 0, 20, 2);
        x.addJob(0, 3, 0, 30, 3);
        x.addJob(0, 4, 0, 40, 4);
        Checks.parse(x, "3/1/20");
        long before = x.digest();
        Checks.dueOutOfBounds("removeJob(-1)", () -> x.removeJob(-1));
        Checks.dueOutOfBounds("removeJob(4)", () -> x.removeJob(4));
        Checks.dueOutOfBounds("removeJob(LOW)", () -> x.removeJob(LOW));
        Checks.dueOutOfBounds("removeJob(HIGH)", () -> x.removeJob(HIGH));
        Checks.due("removeJob thrown: digest()", () -> x.digest(), before);
        Checks.due("removeJob(1)", () -> x.removeJob(1), 3);
        // The batches on both sides of the one that is gone stay apart.
        Checks.dueKept("removeJob(1)", x, "2/10");
        Checks.due("removeJob(1): job(1, 4)", () -> x.job(1, 4), 3);
        Checks.due("removeJob(1): job(2, 1)", () -> x.job(2, 1), 4);
        Checks.dueOutOfBounds("removeJob(1): job(3, 0)", () -> x.job(3, 0));
        Checks.due("removeJob(0)", () -> x.removeJob(0), 2);
        Checks.dueKept("removeJob(0)", x, "1/0");
        x.undo();
        dueUndo("removeJob(1)", x, before, 2);
        BatchMachine y = new BatchMachine();
        y.addJob(2, 1, 0, 0, 1);
        Checks.due("removeJob of the only job", () -> y.removeJob(0), 0);
        Checks.dueOutOfBounds("removeJob without jobs", () -> y.removeJob(0));
    }

    private static void promise4SetJob() {
        BatchMachine x = sample();
        Checks.parse(x, "01");
        int[] old = {0, 5, 20, 18, 3};
        int[] least = {0, 1, 0, 0, 1};
        int[] greatest = {3, 50, 300, 500, 9};
        for (int what = 4; what >= 0; what--) {
            int w = what;
            String name = "setJob(1, " + w + ", ";
            long before = x.digest();
            Checks.dueIllegalArgument(name + "below)", () -> x.setJob(1, w, least[w] - 1));
            Checks.dueIllegalArgument(name + "above)", () -> x.setJob(1, w, greatest[w] + 1));
            Checks.dueIllegalArgument(name + "HIGH)", () -> x.setJob(1, w, HIGH));
            Checks.due(name + "..) thrown: digest()", () -> x.digest(), before);
            Checks.due(name + "same)", () -> x.setJob(1, w, old[w]), old[w]);
            Checks.dueKept(name + "same)", x, "01");
            Checks.due(name + "least)", () -> x.setJob(1, w, least[w]), old[w]);
            Checks.due(name + "greatest)", () -> x.setJob(1, w, greatest[w]), least[w]);
            Checks.due("job(1, " + w + ")", () -> x.job(1, w), greatest[w]);
            Checks.dueKept(name + "greatest)", x, w == 0 ? "" : "01");
            x.undo();
            x.undo();
            dueUndo(name + "..)", x, before, w == 4 ? 3 : 0);
        }
        Checks.dueIllegalArgument("setJob(0, -1, 1)", () -> x.setJob(0, -1, 1));
        Checks.dueIllegalArgument("setJob(0, 5, 1)", () -> x.setJob(0, 5, 1));
        Checks.dueIllegalArgument("setJob(0, HIGH, 1)", () -> x.setJob(0, HIGH, 1));
        Checks.dueOutOfBounds("setJob(3, 0, 1)", () -> x.setJob(3, 0, 1));
        Checks.dueOutOfBounds("setJob(-1, 9, 99)", () -> x.setJob(-1, 9, 99));
        Checks.parse(x, "0");
        x.setJob(2, 0, 3);
        // Also the family of a job that the kept schedule leaves out.
        Checks.dueKept("setJob(2, 0, 3)", x, "");
    }

    private static void promise5And6Job() {
        BatchMachine x = sample();
        int[] want = {0, 5, 20, 18, 3};
        for (int what = 0; what < 5; what++) {
            int w = what;
            Checks.due("job(1, " + w + ")", () -> x.job(1, w), want[w]);
        }
        Checks.dueIllegalArgument("job(0, -1)", () -> x.job(0, -1));
        Checks.dueIllegalArgument("job(0, 5)", () -> x.job(0, 5));
        Checks.dueIllegalArgument("job(0, HIGH)", () -> x.job(0, HIGH));
        Checks.dueOutOfBounds("job(3, 0)", () -> x.job(3, 0));
        Checks.dueOutOfBounds("job(-1, 0)", () -> x.job(-1, 0));
        Checks.dueOutOfBounds("job(LOW, 7)", () -> x.job(LOW, 7));
        Checks.due("jobs()", () -> x.jobs(), 3);
        x.removeJob(0);
        Checks.due("jobs()", () -> x.jobs(), 2);
    }

    private static void promise7SetSetup() {
        BatchMachine x = sample();
        Checks.parse(x, "0/1/2");
        Checks.due("setSetup(-1, 0, 60)", () -> x.setSetup(-1, 0, 60), 3);
        Checks.due("setSetup(-1, 0, 0)", () -> x.setSetup(-1, 0, 0), 60);
        Checks.due("setSetup(0, 0, 9)", () -> x.setSetup(0, 0, 9), 0);
        Checks.due("setSetup(0, 1, 1)", () -> x.setSetup(0, 1, 1), 6);
        Checks.due("setSetup: total(0)", () -> x.total(0), 10);
        long before = x.digest();
        Checks.dueOutOfBounds("setSetup(-2, 0, 0)", () -> x.setSetup(-2, 0, 0));
        Checks.dueOutOfBounds("setSetup(4, 0, 0)", () -> x.setSetup(4, 0, 0));
        Checks.dueOutOfBounds("setSetup(0, -1, 0)", () -> x.setSetup(0, -1, 0));
        Checks.dueOutOfBounds("setSetup(0, 4, 61)", () -> x.setSetup(0, 4, 61));
        Checks.dueOutOfBounds("setSetup(HIGH, LOW, 0)", () -> x.setSetup(HIGH, LOW, 0));
        Checks.dueIllegalArgument("setSetup(0, 0, -1)", () -> x.setSetup(0, 0, -1));
        Checks.dueIllegalArgument("setSetup(-1, 3, 61)", () -> x.setSetup(-1, 3, 61));
        Checks.due("setSetup thrown: digest()", () -> x.digest(), before);
        Checks.due("setSetup(3, 2, 5)", () -> x.setSetup(3, 2, 5), 0);
        dueUndo("setSetup(3, 2, 5)", x, before, 1);
    }

    private static void promise8SetMode() {
        BatchMachine x = sample();
        Checks.due("setMode(false, false)", () -> x.setMode(false, false), 1);
        Checks.due("setMode(true, false)", () -> x.setMode(true, false), 0);
        Checks.due("setMode(true, true)", () -> x.setMode(true, true), 2);
        long before = x.digest();
        Checks.due("setMode(true, true)", () -> x.setMode(true, true), 3);
        dueUndo("setMode(true, true)", x, before, 1);
        Checks.due("setMode(false, true)", () -> x.setMode(false, true), 3);
    }

    private static void promise9SetObjective() {
        BatchMachine x = sample();
        int previous = 1;
        for (int objective = 0; objective < 6; objective++) {
            int o = objective;
            Checks.due("setObjective(" + o + ")", () -> x.setObjective(o), previous);
            previous = o;
        }
        long before = x.digest();
        Checks.dueIllegalArgument("setObjective(6)", () -> x.setObjective(6));
        Checks.dueIllegalArgument("setObjective(-1)", () -> x.setObjective(-1));
        Checks.dueIllegalArgument("setObjective(LOW)", () -> x.setObjective(LOW));
        Checks.due("setObjective thrown: digest()", () -> x.digest(), before);
        x.undo();
        Checks.due("setObjective undone: setObjective(0)", () -> x.setObjective(0), 4);
    }

    private static void promise10And11Text() {
        BatchMachine x = new BatchMachine();
        Checks.dueIllegalArgument("append(-1)", () -> x.append(-1));
        Checks.dueIllegalArgument("append(128)", () -> x.append(128));
        Checks.due("append(0)", () -> x.append(0), 1);
        Checks.due("append(127)", () -> x.append(127), 2);
        for (int i = 3; i <= 60; i++) {
            Checks.due("append(48)", () -> x.append(48), i);
        }
        Checks.dueIllegalState("append to 60 bytes", () -> x.append(48));
        Checks.dueIllegalArgument("append(128) to 60 bytes", () -> x.append(128));
        Checks.dueIllegalState("append and undo", () -> x.undo());
        Checks.due("clearText()", () -> x.clearText(), 60);
        Checks.due("clearText() again", () -> x.clearText(), 0);
        Checks.dueIllegalState("clearText and undo", () -> x.undo());
        Checks.due("append(48)", () -> x.append(48), 1);
    }

    private static void promise12Parse() {
        Object[][] texts = {
            {"", 0}, {"01/2", 2}, {"10/2", 2}, {"0/1/2", 3}, {"2/01", 2}, {"1", 1}, {"2/1", 2},
            {"012", -12}, {"02", -11}, {"0/", -12}, {"01/2/", -15}, {"/", -10}, {"/0", -10},
            {"0//1", -12}, {"00", -11}, {"0/0", -12}, {"01/2/0", -15}, {"3", -10}, {"0/3", -12},
            {"8", -10}, {"a", -10}, {"0 1", -11}, {"0/1 ", -13}, {"0.1", -11}, {":", -10},
            {"\0", -10}, {"0\177", -11}, {"2/3/", -12}, {"//", -10}};
        for (Object[] row : texts) {
            BatchMachine x = sample();
            String text = (String) row[0];
            Checks.parse(x, "0/2");
            long before = x.digest();
            Checks.due("parse of " + text, () -> Checks.parse(x, text), (Integer) row[1]);
            Checks.dueKept("parse of " + text, x, (Integer) row[1] < 0 ? "0/2" : text);
            Checks.due("parse of " + text + ": length of the text", () -> x.clearText(), text.length());
            x.append(48);
            x.append(48);
            x.append(48);
            if ((Integer) row[1] < 0) {
                Checks.due("parse of " + text + ": digest()", () -> x.digest(), before);
            } else {
                x.undo();
                Checks.dueKept("parse of " + text + ", undone, it", x, "0/2");
            }
        }
        BatchMachine y = new BatchMachine();
        Checks.due("parse of 0 without jobs", () -> Checks.parse(y, "0"), -10);
        Checks.dueIllegalState("parse with an error and undo", () -> y.undo());
        Checks.due("parse of nothing", () -> Checks.parse(y, ""), 0);
        Checks.due("parse of nothing and undo", () -> y.undo(), 0);
        BatchMachine z = new BatchMachine();
        for (int i = 0; i < 8; i++) {
            z.addJob(0, 1, 0, 0, 1);
        }
        Checks.due("parse of eight jobs", () -> Checks.parse(z, "7/6/5/4/3/2/1/0"), 8);
        Checks.due("parse of one batch", () -> Checks.parse(z, "76543210"), 1);
    }

    private static void promise13And23Rules() {
        BatchMachine x = new BatchMachine();
        x.addJob(1, 4, 5, 30, 2);
        x.addJob(0, 6, 0, 30, 3);
        x.addJob(1, 3, 5, 20, 1);
        x.addJob(0, 5, 0, 20, 4);
        x.addJob(2, 9, 9, 50, 5);
        String[] want = {"13/02/4", "2/3/0/1/4", "3/4/0/1/2", "31/20/4"};
        // 3/4/0/1/2: time / weight is 5/4, 9/5, and then 2, 2 and 3.
        x.setObjective(0);
        long[] cost = {
            3 * 6 + 4 * 11 + 2 * 15 + 18 + 5 * 27,
            8 + 4 * 13 + 2 * 17 + 3 * 23 + 5 * 32,
            4 * 5 + 5 * 18 + 2 * 22 + 3 * 28 + 31,
            4 * 5 + 3 * 11 + 14 + 2 * 18 + 5 * 27};
        Checks.parse(x, "4");
        for (int rule = 0; rule < 4; rule++) {
            int r = rule;
            long before = x.digest();
            Checks.due("ruleCost(" + r + ")", () -> x.ruleCost(r), cost[r]);
            Checks.due("ruleCost(" + r + "): digest()", () -> x.digest(), before);
            Checks.due("keepRule(" + r + ")", () -> x.keepRule(r), cost[r]);
            Checks.dueKept("keepRule(" + r + ")", x, want[r]);
            x.undo();
            Checks.dueKept("keepRule(" + r + ") undone, it", x, "4");
            x.keepRule(r);
            x.parse();
        }
        int[] wrong = {-1, 4, LOW, HIGH};
        long before = x.digest();
        for (int rule : wrong) {
            Checks.dueIllegalArgument("keepRule(" + rule + ")", () -> x.keepRule(rule));
            Checks.dueIllegalArgument("ruleCost(" + rule + ")", () -> x.ruleCost(rule));
        }
        Checks.due("rules thrown: digest()", () -> x.digest(), before);
        familiesWithEqualDueDates();
    }

    private static void familiesWithEqualDueDates() {
        BatchMachine x = new BatchMachine();
        x.addJob(3, 1, 0, 10, 1);
        x.addJob(1, 1, 0, 40, 1);
        x.addJob(1, 1, 0, 10, 1);
        x.addJob(2, 1, 0, 5, 1);
        x.addJob(3, 1, 0, 10, 1);
        x.keepRule(3);
        Checks.dueKept("keepRule(3) with equal due dates", x, "3/21/04");
        BatchMachine y = new BatchMachine();
        Checks.due("keepRule(2) without jobs", () -> y.keepRule(2), 0);
        Checks.due("keepRule(2) without jobs: undo()", () -> y.undo(), 0);
        Checks.due("ruleCost(1) without jobs", () -> y.ruleCost(1), 0);
    }

    private static void promise14KeepBest() {
        BatchMachine x = sample();
        long before = x.digest();
        Checks.due("keepBest()", () -> x.keepBest(), 23);
        Checks.dueKept("keepBest()", x, "01/2");
        dueUndo("keepBest()", x, before, 1);
        x.setMode(true, true);
        Checks.due("keepBest() with batches", () -> x.keepBest(), 23);
        Checks.dueKept("keepBest() with batches", x, "0/1/2");
        tiesOfBestSchedules();
        BatchMachine y = new BatchMachine();
        Checks.due("keepBest() without jobs", () -> y.keepBest(), 0);
        Checks.due("keepBest() without jobs: undo()", () -> y.undo(), 0);
    }

    private static void tiesOfBestSchedules() {
        BatchMachine x = new BatchMachine();
        x.addJob(0, 2, 0, 0, 1);
        x.addJob(1, 2, 0, 0, 1);
        x.addJob(0, 2, 0, 0, 1);
        x.setObjective(5);
        Checks.due("keepBest() of ties", () -> x.keepBest(), 6);
        Checks.dueKept("keepBest() of ties", x, "0/1/2");
        x.setMode(true, true);
        x.keepBest();
        Checks.dueKept("keepBest() of ties with batches", x, "0/1/2");
        for (int f = 0; f < 2; f++) {
            for (int g = 0; g < 2; g++) {
                x.setSetup(f, g, 10);
            }
        }
        Checks.due("keepBest() of ties with batches and setups", () -> x.keepBest(), 16);
        // The sets {1} and {0, 2} are the numbers 2 and 5.
        Checks.dueKept("keepBest() of ties with batches and setups", x, "1/02");
        x.setMode(false, true);
        x.keepBest();
        Checks.dueKept("keepBest() of ties with setups", x, "02/1");
    }

    private static void promise15Improve() {
        BatchMachine x = new BatchMachine();
        for (int time = 3; time > 0; time--) {
            x.addJob(0, time, 0, 0, 1);
        }
        x.setObjective(0);
        Checks.parse(x, "012");
        long before = x.digest();
        Checks.dueIllegalArgument("improve(-1)", () -> x.improve(-1));
        Checks.dueIllegalArgument("improve(51)", () -> x.improve(51));
        Checks.due("improve thrown: digest()", () -> x.digest(), before);
        Checks.due("improve(0)", () -> x.improve(0), 0);
        Checks.dueKept("improve(0)", x, "012");
        Checks.due("improve(1)", () -> x.improve(1), 1);
        Checks.dueKept("improve(1)", x, "102");
        Checks.due("improve(50)", () -> x.improve(50), 2);
        Checks.dueKept("improve(50)", x, "210");
        Checks.due("improve(50) again", () -> x.improve(50), 0);
        x.undo();
        x.undo();
        x.undo();
        Checks.dueKept("improve(1) undone, it", x, "012");
        movesAndMergedBatches();
        BatchMachine y = new BatchMachine();
        Checks.due("improve(50) without jobs", () -> y.improve(50), 0);
        Checks.due("improve(50) without jobs: undo()", () -> y.undo(), 0);
    }

    private static void movesAndMergedBatches() {
        BatchMachine x = new BatchMachine();
        x.addJob(0, 1, 0, 0, 1);
        x.addJob(1, 1, 0, 0, 1);
        x.addJob(1, 1, 0, 0, 1);
        x.addJob(0, 1, 0, 0, 1);
        x.setSetup(0, 1, 10);
        x.setSetup(1, 0, 10);
        x.setSetup(0, 0, 10);
        x.setObjective(5);
        Checks.parse(x, "0/12/3");
        Checks.due("improve(50) by a move", () -> x.improve(50), 1);
        Checks.dueKept("improve(50) by a move", x, "12/03");
        Checks.parse(x, "0/3");
        Checks.due("improve(2) of parted batches", () -> x.improve(2), 1);
        Checks.dueKept("improve(2) of parted batches", x, "30");
        Checks.parse(x, "0");
        Checks.due("improve(2) of one job", () -> x.improve(2), 0);
    }

    private static void promise16To18Batches() {
        BatchMachine x = sample();
        Checks.due("batches()", () -> x.batches(), 0);
        Checks.dueOutOfBounds("batch(0, 9) of nothing", () -> x.batch(0, 9));
        Checks.parse(x, "01/2");
        Checks.due("batches()", () -> x.batches(), 2);
        Checks.dueBatch("item", x, 0, 0, 2, 0, 3, 3, 25);
        Checks.dueBatch("item", x, 1, 1, 1, 25, 31, 31, 35);
        x.setMode(true, true);
        Checks.dueBatch("whole", x, 0, 0, 2, 0, 3, 20, 35);
        Checks.dueBatch("whole", x, 1, 1, 1, 35, 41, 41, 45);
        x.setMode(true, false);
        Checks.dueBatch("whole, not early", x, 0, 0, 2, 20, 23, 23, 38);
        Checks.dueBatch("whole, not early", x, 1, 1, 1, 38, 44, 44, 48);
        x.setMode(false, false);
        Checks.dueBatch("item, not early", x, 0, 0, 2, 0, 3, 3, 25);
        Checks.parse(x, "10/2");
        Checks.dueBatch("item, not early, late first", x, 0, 0, 2, 20, 23, 23, 38);
        x.setMode(false, true);
        Checks.dueBatch("item, late first", x, 0, 0, 2, 0, 3, 20, 35);
        int[] wrong = {-1, 6, LOW, HIGH};
        for (int w : wrong) {
            Checks.dueIllegalArgument("batch(1, " + w + ")", () -> x.batch(1, w));
        }
        Checks.dueOutOfBounds("batch(2, 0)", () -> x.batch(2, 0));
        Checks.dueOutOfBounds("batch(-1, 6)", () -> x.batch(-1, 6));
        Checks.due("jobAt(0, 0)", () -> x.jobAt(0, 0), 1);
        Checks.due("jobAt(0, 1)", () -> x.jobAt(0, 1), 0);
        Checks.due("jobAt(1, 0)", () -> x.jobAt(1, 0), 2);
        int[][] nowhere = {{0, 2}, {0, -1}, {1, 1}, {2, 0}, {-1, 0}, {HIGH, 0}, {0, HIGH}, {LOW, LOW}};
        for (int[] p : nowhere) {
            Checks.dueOutOfBounds("jobAt(" + p[0] + ", " + p[1] + ")", () -> x.jobAt(p[0], p[1]));
        }
    }

    private static void promise19Planned() {
        BatchMachine x = sample();
        Checks.duePlanned("nothing kept", x, 0, -1, -1, -1, -1);
        Checks.parse(x, "01/2");
        Checks.duePlanned("item", x, 0, 3, 13, 1, 0);
        Checks.duePlanned("item", x, 1, 20, 25, 7, 0);
        Checks.duePlanned("item", x, 2, 31, 35, 0, 1);
        x.setMode(true, true);
        Checks.duePlanned("whole", x, 0, 20, 35, 23, 0);
        Checks.duePlanned("whole", x, 1, 30, 35, 17, 0);
        Checks.duePlanned("whole", x, 2, 41, 45, 5, 1);
        Checks.parse(x, "2");
        Checks.duePlanned("left out", x, 1, -1, -1, -1, -1);
        Checks.duePlanned("alone", x, 2, 0, 4, 0, 0);
        int[] wrong = {-1, 4, LOW, HIGH};
        for (int w : wrong) {
            Checks.dueIllegalArgument("planned(2, " + w + ")", () -> x.planned(2, w));
            Checks.dueIllegalArgument("planned(0, " + w + ")", () -> x.planned(0, w));
            Checks.dueOutOfBounds("planned(3, " + w + ")", () -> x.planned(3, w));
        }
        Checks.dueOutOfBounds("planned(-1, 0)", () -> x.planned(-1, 0));
    }

    private static void promise20Cost() {
        BatchMachine x = sample();
        long[] item = {136, 23, 149, 5, 7, 35};
        long[] whole = {220, 102, 2 * 529 + 3 * 289 + 25, 6, 23, 45};
        for (int objective = 0; objective < 6; objective++) {
            int o = objective;
            x.setObjective(o);
            x.setMode(false, true);
            Checks.parse(x, "01/2");
            Checks.due("cost() of objective " + o, () -> x.cost(), item[o]);
            x.setMode(true, true);
            Checks.due("cost() of batches, objective " + o, () -> x.cost(), whole[o]);
            Checks.parse(x, "");
            Checks.due("cost() of nothing, objective " + o, () -> x.cost(), 0);
        }
        x.setMode(false, true);
        x.setObjective(4);
        Checks.parse(x, "2");
        Checks.due("cost() of an early job", () -> x.cost(), -36);
    }

    private static void promise21Total() {
        BatchMachine x = sample();
        Checks.parse(x, "01/2");
        long[] item = {9, 19, 7};
        long[] whole = {9, 19, 17};
        for (int what = 0; what < 3; what++) {
            int w = what;
            x.setMode(false, true);
            Checks.due("total(" + w + ")", () -> x.total(w), item[w]);
            x.setMode(true, true);
            Checks.due("total(" + w + ") of batches", () -> x.total(w), whole[w]);
        }
        int[] wrong = {-1, 3, LOW, HIGH};
        for (int w : wrong) {
            Checks.dueIllegalArgument("total(" + w + ")", () -> x.total(w));
        }
    }

    private static void promise22BestCost() {
        BatchMachine x = sample();
        long before = x.digest();
        Checks.due("bestCost()", () -> x.bestCost(), 23);
        Checks.due("bestCost(): digest()", () -> x.digest(), before);
        x.setJob(0, 2, 4);
        Checks.due("bestCost() after setJob", () -> x.bestCost(), 25);
        x.undo();
        Checks.due("bestCost() after undo", () -> x.bestCost(), 23);
        x.setObjective(4);
        Checks.due("bestCost() of lateness", () -> x.bestCost(), 7);
        x.removeJob(0);
        x.removeJob(0);
        Checks.due("bestCost() below 0", () -> x.bestCost(), -36);
        x.setSetup(-1, 1, 10);
        Checks.due("bestCost() after setSetup", () -> x.bestCost(), -26);
    }

    private static void promise24BestWithout() {
        BatchMachine x = sample();
        long before = x.digest();
        Checks.due("bestWithout(0)", () -> x.bestWithout(0), 21);
        Checks.due("bestWithout(1)", () -> x.bestWithout(1), 2);
        Checks.due("bestWithout(2)", () -> x.bestWithout(2), 23);
        Checks.dueOutOfBounds("bestWithout(3)", () -> x.bestWithout(3));
        Checks.dueOutOfBounds("bestWithout(-1)", () -> x.bestWithout(-1));
        Checks.due("bestWithout: digest()", () -> x.digest(), before);
        x.setObjective(4);
        x.removeJob(0);
        x.removeJob(0);
        Checks.due("bestWithout the only job", () -> x.bestWithout(0), 0);
    }

    private static void promise25BestWithFirst() {
        BatchMachine x = sample();
        long before = x.digest();
        Checks.due("bestWithFirst(0)", () -> x.bestWithFirst(0), 23);
        Checks.due("bestWithFirst(1)", () -> x.bestWithFirst(1), 72);
        Checks.due("bestWithFirst(2)", () -> x.bestWithFirst(2), 42);
        Checks.dueOutOfBounds("bestWithFirst(3)", () -> x.bestWithFirst(3));
        Checks.dueOutOfBounds("bestWithFirst(-1)", () -> x.bestWithFirst(-1));
        Checks.due("bestWithFirst: digest()", () -> x.digest(), before);
        // The first job of a whole batch is free, so {0, 1} counts for both.
        x.setMode(true, true);
        x.setSetup(0, 0, 60);
        x.setSetup(1, 0, 60);
        x.setObjective(5);
        Checks.due("bestWithFirst(0) of batches", () -> x.bestWithFirst(0), 45);
        Checks.due("bestWithFirst(1) of batches", () -> x.bestWithFirst(1), 45);
    }

    private static void promise26LatestRelease() {
        BatchMachine x = sample();
        long before = x.digest();
        Checks.due("latestRelease(0)", () -> x.latestRelease(0), 3);
        Checks.due("latestRelease(1)", () -> x.latestRelease(1), 20);
        Checks.due("latestRelease(2)", () -> x.latestRelease(2), 36);
        Checks.dueOutOfBounds("latestRelease(3)", () -> x.latestRelease(3));
        Checks.dueOutOfBounds("latestRelease(-1)", () -> x.latestRelease(-1));
        Checks.due("latestRelease: digest()", () -> x.digest(), before);
        BatchMachine y = new BatchMachine();
        y.addJob(0, 1, 0, 500, 1);
        y.addJob(0, 1, 250, 500, 1);
        y.addJob(0, 1, 300, 500, 1);
        Checks.due("latestRelease 100 later", () -> y.latestRelease(0), 100);
        Checks.due("latestRelease up to 300", () -> y.latestRelease(1), 300);
        Checks.due("latestRelease of 300", () -> y.latestRelease(2), 300);
        y.setJob(0, 3, 100);
        Checks.due("latestRelease 99 later", () -> y.latestRelease(0), 99);
    }

    private static void promise27SetupPrice() {
        BatchMachine x = sample();
        long before = x.digest();
        Checks.due("setupPrice()", () -> x.setupPrice(), 2);
        Checks.due("setupPrice(): digest()", () -> x.digest(), before);
        BatchMachine y = new BatchMachine();
        y.setSetup(-1, 0, 5);
        Checks.due("setupPrice() without jobs", () -> y.setupPrice(), 0);
        y.addJob(0, 10, 0, 0, 1);
        y.addJob(0, 10, 0, 0, 1);
        y.setMode(true, true);
        y.setObjective(0);
        // A setup from a family to itself stays: 01 costs 50, and then 40.
        y.setSetup(0, 0, 50);
        Checks.due("setupPrice() of batches", () -> y.setupPrice(), 10);
    }

    private static void promise28Undo() {
        BatchMachine x = sample();
        Checks.parse(x, "01");
        x.setObjective(2);
        x.setObjective(3);
        x.setObjective(4);
        x.setObjective(5);
        Checks.due("undo() 1", () -> x.undo(), 3);
        x.clearText();
        Checks.due("undo() 2", () -> x.undo(), 2);
        Checks.due("undo() leaves the text", () -> x.clearText(), 0);
        Checks.due("undo() 3", () -> x.undo(), 1);
        Checks.due("undo() 4", () -> x.undo(), 0);
        Checks.dueIllegalState("undo() 5", () -> x.undo());
        Checks.due("undo(): setObjective(0)", () -> x.setObjective(0), 1);
        Checks.dueKept("undo()", x, "01");
        Checks.due("undo() after one more call", () -> x.undo(), 0);
        savingCalls();
    }

    /** The calls of kind 0 to 9 save one state each, the others none. */
    private static void savingCalls() {
        for (int kind = 0; kind < 23; kind++) {
            BatchMachine x = new BatchMachine();
            x.addJob(0, 1, 0, 0, 1);
            callOfKind(x, kind);
            Checks.due("undo() after a call of kind " + kind, () -> x.undo(), kind < 10 ? 1 : 0);
        }
    }

    private static long callOfKind(BatchMachine x, int kind) {
        switch (kind) {
            case 0: return x.addJob(0, 1, 0, 0, 1);
            case 1: return x.removeJob(0);
            case 2: return x.setJob(0, 0, 0);
            case 3: return x.setSetup(0, 0, 0);
            case 4: return x.setMode(false, true);
            case 5: return x.setObjective(1);
            case 6: return x.parse();
            case 7: return x.keepRule(0);
            case 8: return x.keepBest();
            case 9: return x.improve(0);
            case 10: return x.append(48);
            case 11: return x.clearText();
            case 12: return Checks.parse(x, "9");
            case 13: return x.jobs() + x.batches();
            case 14: return x.cost() + x.total(0);
            case 15: return x.bestCost();
            case 16: return x.ruleCost(0);
            case 17: return x.setupPrice();
            case 18: return x.digest();
            case 19: return x.bestWithout(0);
            case 20: return x.bestWithFirst(0);
            case 21: return x.latestRelease(0);
            default: return x.job(0, 0) + x.planned(0, 0);
        }
    }

    private static void promise29Digest() {
        BatchMachine x = new BatchMachine();
        long[] empty = {
            0, 0, 0, 0, 0, 0, 0, 0, 0, 0, 0, 0, 0, 0, 0, 0, 0, 0, 0, 0, 0, 0, 0, 1, 1, 0, 0, 0, 0};
        Checks.due("digest() of a new object", () -> x.digest(), hash(empty));
        BatchMachine y = sample();
        Checks.parse(y, "10/2");
        y.setSetup(2, 3, 11);
        y.setMode(false, false);
        y.clearText();
        y.append(1);
        y.append(2);
        // The schedule 10/2 runs 23-28, 28-38, 44-48: 3 * 10 + 2 * 26 + 8.
        long[] full = {
            2, 3, 0, 10, 0, 12, 2, 0, 5, 20, 18, 3, 1, 4, 0, 40, 1, 3, 0, 0, 0,
            0, 6, 0, 0, 7, 0, 0, 0, 0, 0, 0, 11, 0, 0, 0, 0, 0, 0, 1,
            2, 0, 2, 20, 23, 23, 38, 1, 0, 1, 1, 38, 44, 44, 48, 2, 90, 23, 4};
        Checks.due("digest()", () -> y.digest(), hash(full));
        y.setMode(true, true);
        Checks.due("digest() asked twice", () -> y.digest(), y.digest());
    }

    private static long hash(long[] values) {
        long h = 2887;
        for (long v : values) {
            h = 31 * h + v;
        }
        return h;
    }
}
