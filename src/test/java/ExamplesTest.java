/** The five examples of the document. */
public final class ExamplesTest {
    public static void main(String[] args) {
        bestScheduleOfThreeJobs();
        itemAndBatchAvailability();
        earlySetups();
        ruleImprovementAndWhatIf();
        errorsOfATextAndExceptions();
        Checks.close();
    }

    private static void bestScheduleOfThreeJobs() {
        BatchMachine x = new BatchMachine();
        Checks.due("1 addJob", () -> x.addJob(0, 10, 0, 30, 2), 0);
        Checks.due("1 addJob", () -> x.addJob(1, 5, 8, 20, 5), 1);
        Checks.due("1 addJob", () -> x.addJob(0, 7, 20, 40, 1), 2);
        Checks.due("1 setSetup", () -> x.setSetup(0, 1, 4), 0);
        Checks.due("1 setSetup", () -> x.setSetup(1, 0, 5), 0);
        Checks.due("1 bestCost", () -> x.bestCost(), 0);
        Checks.due("1 keepBest", () -> x.keepBest(), 0);
        Checks.due("1 jobAt", () -> x.jobAt(0, 0), 0);
        Checks.due("1 planned", () -> x.planned(1, 1), 19);
        Checks.due("1 cost", () -> x.cost(), 0);
    }

    private static void itemAndBatchAvailability() {
        BatchMachine x = new BatchMachine();
        Checks.due("2 addJob", () -> x.addJob(0, 10, 0, 5, 1), 0);
        Checks.due("2 addJob", () -> x.addJob(0, 5, 20, 5, 1), 1);
        Checks.due("2 append", () -> x.append(48), 1);
        Checks.due("2 append", () -> x.append(49), 2);
        Checks.due("2 parse", () -> x.parse(), 1);
        Checks.due("2 planned", () -> x.planned(0, 1), 10);
        Checks.due("2 setMode", () -> x.setMode(true, true), 1);
        Checks.due("2 planned", () -> x.planned(0, 1), 35);
        Checks.due("2 cost", () -> x.cost(), 60);
    }

    private static void earlySetups() {
        BatchMachine x = new BatchMachine();
        Checks.due("3 addJob", () -> x.addJob(0, 10, 50, 100, 1), 0);
        Checks.due("3 setSetup", () -> x.setSetup(-1, 0, 20), 0);
        Checks.due("3 keepBest", () -> x.keepBest(), 0);
        Checks.due("3 batch", () -> x.batch(0, 2), 0);
        Checks.due("3 setMode", () -> x.setMode(false, false), 1);
        Checks.due("3 batch", () -> x.batch(0, 2), 50);
        Checks.due("3 total", () -> x.total(2), 50);
    }

    private static void ruleImprovementAndWhatIf() {
        BatchMachine x = new BatchMachine();
        Checks.due("4 addJob", () -> x.addJob(0, 10, 0, 5, 1), 0);
        Checks.due("4 addJob", () -> x.addJob(1, 3, 0, 4, 9), 1);
        Checks.due("4 keepRule", () -> x.keepRule(0), 86);
        Checks.due("4 improve", () -> x.improve(50), 1);
        Checks.due("4 cost", () -> x.cost(), 8);
        Checks.due("4 bestWithFirst", () -> x.bestWithFirst(0), 86);
        Checks.due("4 latestRelease", () -> x.latestRelease(0), 3);
    }

    private static void errorsOfATextAndExceptions() {
        BatchMachine x = new BatchMachine();
        Checks.due("5 append", () -> x.append(48), 1);
        Checks.due("5 parse", () -> x.parse(), -10);
        Checks.dueIllegalArgument("5 setObjective", () -> x.setObjective(6));
        Checks.due("5 bestCost", () -> x.bestCost(), 0);
        Checks.dueOutOfBounds("5 batch", () -> x.batch(0, 0));
        Checks.dueIllegalState("5 undo", () -> x.undo());
    }
}
