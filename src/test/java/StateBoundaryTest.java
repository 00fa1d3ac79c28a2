import java.math.BigInteger;
import java.util.ArrayList;
import java.util.List;

/** Terms "Undo" and "Exceptions", promises 28 and 29 and "What it is": each sentence that names a boundary case. */
public final class StateBoundaryTest {
    public static void main(String[] args) {
        noSavedState();
        atMostFourStates();
        remainingStates();
        savedEvenWithoutAChange();
        notSaved();
        everythingButTheText();
        eachCallUndone();
        bestCostUndone();
        refusedCallsSaveNothing();
        refusedCallsOfAFullObject();
        firstListedException();
        digestOfANewObject();
        digestOfAFullObject();
        digestWithOverflow();
        digestBelowZero();
        digestOfTheText();
        digestOfSavedStates();
        upToTheLastCall();
        objectsApart();
        Checks.close();
    }

    private static void noSavedState() {
        Checks.sentence("Throws `IllegalStateException` if there is no saved state");
        BatchMachine x = new BatchMachine();
        Checks.refusedState(x, "undo() of a new object", () -> x.undo());
        x.append(48);
        x.clearText();
        Checks.refusedState(x, "undo() behind calls that save nothing", () -> x.undo());
        x.setObjective(1);
        Checks.due("undo()", () -> x.undo(), 0);
        Checks.refusedState(x, "undo() again", () -> x.undo());
        x.setObjective(5);
        Checks.due("undo() behind one call more", () -> x.undo(), 0);
    }

    /** Behind each call the time of job 0 is the number of calls; ahead of the first there is no job. */
    private static void atMostFourStates() {
        Checks.sentence("at most 4 states are saved, and the oldest is dropped first.");
        for (int calls = 1; calls <= 9; calls++) {
            BatchMachine x = Checks.machine(new int[] {0, 1, 0, 0, 1});
            for (int time = 2; time <= calls; time++) {
                x.setJob(0, 1, time);
            }
            String name = " behind " + calls + " calls";
            int states = Math.min(4, calls);
            for (int left = states - 1; left >= 0; left--) {
                Checks.due("undo()" + name, () -> x.undo(), left);
                int time = calls - states + left;
                if (time > 0) {
                    Checks.due("job(0, 1)" + name, () -> x.job(0, 1), time);
                } else {
                    Checks.due("jobs()" + name, () -> x.jobs(), 0);
                }
            }
            Checks.refusedState(x, "undo() of a dropped state" + name, () -> x.undo());
        }
    }

    private static void remainingStates() {
        Checks.sentence("Returns the number of saved states that remain.");
        BatchMachine x = new BatchMachine();
        for (int time = 1; time <= 4; time++) {
            x.setSetup(0, 0, time);
        }
        Checks.due("undo()", () -> x.undo(), 3);
        Checks.due("undo()", () -> x.undo(), 2);
        x.setSetup(0, 0, 50);
        Checks.due("undo() behind a call", () -> x.undo(), 2);
        Checks.due("setSetup(0, 0, 9)", () -> x.setSetup(0, 0, 9), 2);
        x.setSetup(0, 0, 10);
        x.setSetup(0, 0, 11);
        // Six calls were not undone: the state with 0 is dropped, that with 1 is the oldest.
        for (int left = 3; left >= 0; left--) {
            Checks.due("undo()", () -> x.undo(), left);
        }
        Checks.due("setSetup(0, 0, 0)", () -> x.setSetup(0, 0, 0), 1);
    }

    private static void savedEvenWithoutAChange() {
        Checks.sentence("Each successful call of a method whose description says \"undoable\" saves the state "
                + "from before the call, even if the call changes nothing;");
        for (int kind = 0; kind < 8; kind++) {
            BatchMachine x = Checks.equalJobs(2);
            x.undo();
            x.undo();
            x.addJob(0, 1, 0, 0, 1);
            x.keepBest();
            x.clearText();
            x.append(48);
            long before = x.digest();
            int k = kind;
            unchanging(x, k);
            Checks.due("digest() behind call " + k + " without a change", () -> x.digest(), before + 1);
            Checks.due("undo() behind call " + k + " without a change", () -> x.undo(), 2);
            Checks.due("digest() behind undo of call " + k, () -> x.digest(), before);
        }
    }

    private static void unchanging(BatchMachine x, int kind) {
        switch (kind) {
            case 0: x.setJob(0, 0, 0); break;
            case 1: x.setSetup(0, 0, 0); break;
            case 2: x.setMode(false, true); break;
            case 3: x.setObjective(1); break;
            case 4: x.parse(); break;
            case 5: x.keepRule(0); break;
            case 6: x.keepBest(); break;
            default: x.improve(0); break;
        }
    }

    private static void notSaved() {
        Checks.sentence("whose description says \"undoable\"");
        BatchMachine x = Checks.equalJobs(2);
        Checks.parse(x, "0");
        long states = 3;
        x.job(0, 0);
        x.jobs();
        x.append(48);
        x.parse();
        x.clearText();
        x.batches();
        x.batch(0, 0);
        x.jobAt(0, 0);
        x.planned(0, 0);
        x.cost();
        x.total(0);
        x.bestCost();
        x.ruleCost(0);
        x.bestWithout(0);
        x.bestWithFirst(0);
        x.latestRelease(0);
        x.setupPrice();
        x.digest();
        Checks.due("undo()", () -> x.undo(), states - 1);
    }

    private static void everythingButTheText() {
        Checks.sentence("The saved state contains everything except the schedule text.");
        BatchMachine x = Checks.equalJobs(2);
        Checks.write(x, "0");
        x.parse();
        x.append(47);
        x.append(49);
        x.parse();
        x.undo();
        Checks.dueKept("undo()", x, "0");
        Checks.due("parse() of the text that stayed", () -> x.parse(), 2);
        Checks.due("clearText()", () -> x.clearText(), 3);
        x.undo();
        Checks.due("clearText() behind undo()", () -> x.clearText(), 0);
    }

    /** Each call that changes something, and that undo brings all of it back. */
    private static void eachCallUndone() {
        Checks.sentence("Restores the most recently saved state and removes it from the saved states.");
        for (int kind = 0; kind < 13; kind++) {
            BatchMachine x = ordinary();
            x.undo();
            long before = x.digest();
            int k = kind;
            changing(x, k);
            Checks.dueTrue("call " + k + " changes the digest", x.digest() != before + 1);
            Checks.due("undo() of call " + k, () -> x.undo(), 3);
            Checks.due("digest() behind undo of call " + k, () -> x.digest(), before);
        }
    }

    /** The best cost is asked for only after the change, and then again after the undo. */
    private static void bestCostUndone() {
        Checks.sentence("Restores the most recently saved state and removes it from the saved states.");
        for (int kind = 0; kind < 12; kind++) {
            BatchMachine x = ordinary();
            int k = kind;
            changing(x, k);
            x.bestCost();
            x.undo();
            Checks.due("bestCost() behind undo of call " + k, () -> x.bestCost(), ordinary().bestCost());
        }
    }

    /** Three jobs, the schedule 10 kept, and another one written; to undo the last call changes nothing. */
    private static BatchMachine ordinary() {
        BatchMachine x = Checks.machine(new int[] {0, 9, 3, 4, 2}, new int[] {0, 3, 2, 20, 3},
                new int[] {1, 4, 9, 9, 1});
        x.setSetup(0, 1, 6);
        Checks.parse(x, "10");
        Checks.write(x, "2/1");
        x.setObjective(1);
        return x;
    }

    private static void changing(BatchMachine x, int kind) {
        switch (kind) {
            case 0: x.addJob(3, 50, 300, 500, 9); break;
            case 1: x.removeJob(0); break;
            case 2: x.removeJob(2); break;
            case 3: x.setJob(1, 0, 2); break;
            case 4: x.setJob(1, 4, 9); break;
            case 5: x.setSetup(-1, 0, 60); break;
            case 6: x.setSetup(3, 3, 60); break;
            case 7: x.setMode(true, false); break;
            case 8: x.setObjective(4); break;
            case 9: x.keepRule(1); break;
            case 10: x.keepBest(); break;
            case 11: x.improve(50); break;
            default: x.parse(); break;
        }
    }

    private static void refusedCallsSaveNothing() {
        Checks.sentence("A call that throws an exception changes nothing.");
        BatchMachine x = new BatchMachine();
        Checks.refusedArgument(x, "addJob", () -> x.addJob(4, 1, 0, 0, 1));
        Checks.refusedIndex(x, "removeJob", () -> x.removeJob(0));
        Checks.refusedIndex(x, "setJob", () -> x.setJob(0, 0, 0));
        Checks.refusedIndex(x, "setSetup", () -> x.setSetup(4, 0, 0));
        Checks.refusedArgument(x, "setObjective", () -> x.setObjective(6));
        Checks.refusedArgument(x, "keepRule", () -> x.keepRule(4));
        Checks.refusedArgument(x, "improve", () -> x.improve(51));
        Checks.refusedState(x, "undo()", () -> x.undo());
    }

    /** Eight jobs, 60 bytes and 4 saved states, once with and once without refused calls. */
    private static void refusedCallsOfAFullObject() {
        Checks.sentence("A call that throws an exception changes nothing.");
        BatchMachine x = full();
        BatchMachine y = full();
        Checks.refusedState(x, "addJob", () -> x.addJob(0, 1, 0, 0, 1));
        Checks.refusedIndex(x, "removeJob", () -> x.removeJob(8));
        Checks.refusedArgument(x, "setJob", () -> x.setJob(7, 4, 10));
        Checks.refusedArgument(x, "job", () -> x.job(7, 5));
        Checks.refusedArgument(x, "setSetup", () -> x.setSetup(3, 3, 61));
        Checks.refusedArgument(x, "setObjective", () -> x.setObjective(-1));
        Checks.refusedState(x, "append", () -> x.append(47));
        Checks.refusedArgument(x, "keepRule", () -> x.keepRule(-1));
        Checks.refusedArgument(x, "improve", () -> x.improve(-1));
        Checks.refusedIndex(x, "batch", () -> x.batch(8, 0));
        Checks.refusedIndex(x, "jobAt", () -> x.jobAt(0, 8));
        Checks.refusedArgument(x, "planned", () -> x.planned(0, 4));
        Checks.refusedArgument(x, "total", () -> x.total(3));
        Checks.refusedArgument(x, "ruleCost", () -> x.ruleCost(4));
        Checks.refusedIndex(x, "bestWithout", () -> x.bestWithout(8));
        Checks.refusedIndex(x, "bestWithFirst", () -> x.bestWithFirst(8));
        Checks.refusedIndex(x, "latestRelease", () -> x.latestRelease(8));
        Checks.due("parse()", () -> x.parse(), y.parse());
        Checks.due("digest()", () -> x.digest(), y.digest());
        for (int left = 3; left >= 0; left--) {
            Checks.due("undo()", () -> x.undo(), left);
            y.undo();
            Checks.due("digest() behind undo()", () -> x.digest(), y.digest());
        }
        Checks.refusedState(x, "undo()", () -> x.undo());
    }

    private static BatchMachine full() {
        BatchMachine x = new BatchMachine();
        for (int j = 0; j < 8; j++) {
            x.addJob(j % 4, 50 - j, 300 - 30 * j, 60 * j, 9 - j);
        }
        for (int k = 0; k < 20; k++) {
            x.setSetup(k / 4 - 1, k % 4, 60 - k);
        }
        x.setMode(true, false);
        x.setObjective(4);
        x.keepRule(2);
        x.keepBest();
        for (int i = 0; i < 60; i++) {
            x.append(i % 2 == 0 ? 48 + i / 2 % 8 : 47);
        }
        return x;
    }

    private static void firstListedException() {
        Checks.sentence("If several exceptions apply, the one that is listed first is thrown.");
        BatchMachine x = full();
        Checks.refusedArgument(x, "addJob of a ninth job with weight 0", () -> x.addJob(0, 1, 0, 0, 0));
        Checks.refusedArgument(x, "addJob of a ninth job with family 4", () -> x.addJob(4, 1, 0, 0, 1));
        Checks.refusedIndex(x, "setJob(8, 5, 0)", () -> x.setJob(8, 5, 0));
        Checks.refusedIndex(x, "setJob(-1, 0, 4)", () -> x.setJob(-1, 0, 4));
        Checks.refusedIndex(x, "job(8, 5)", () -> x.job(8, 5));
        Checks.refusedIndex(x, "job(-1, -1)", () -> x.job(-1, -1));
        Checks.refusedIndex(x, "setSetup(4, 0, 61)", () -> x.setSetup(4, 0, 61));
        Checks.refusedIndex(x, "setSetup(0, -1, -1)", () -> x.setSetup(0, -1, -1));
        Checks.refusedArgument(x, "append(128) to 60 bytes", () -> x.append(128));
        Checks.refusedArgument(x, "append(-1) to 60 bytes", () -> x.append(-1));
        Checks.refusedIndex(x, "batch(8, 6)", () -> x.batch(8, 6));
        Checks.refusedIndex(x, "batch(-1, -1)", () -> x.batch(-1, -1));
        Checks.refusedIndex(x, "planned(8, 4)", () -> x.planned(8, 4));
        Checks.refusedIndex(x, "planned(-1, -1)", () -> x.planned(-1, -1));
    }

    /** The digest, by exact numbers of any length, of values that can be asked for or are known. */
    private static final class Digest {
        private BigInteger hash = BigInteger.valueOf(2887);

        void add(long value) {
            hash = hash.multiply(BigInteger.valueOf(31)).add(BigInteger.valueOf(value));
        }

        void addAll(int[] values) {
            for (int value : values) {
                add(value);
            }
        }
    }

    /** The setups are the 4 initial ones, and then those from family 0, 1, 2 and 3. */
    private static Digest digestOf(BatchMachine x, int text, int[] setups, int[] settings, int saved) {
        Digest d = new Digest();
        d.add(text);
        d.add(x.jobs());
        for (int j = 0; j < x.jobs(); j++) {
            for (int what = 0; what < 5; what++) {
                d.add(x.job(j, what));
            }
        }
        d.addAll(setups);
        d.addAll(settings);
        d.add(x.batches());
        for (int b = 0; b < x.batches(); b++) {
            for (int what = 0; what < 6; what++) {
                d.add(x.batch(b, what));
            }
            for (int i = 0; i < x.batch(b, 1); i++) {
                d.add(x.jobAt(b, i));
            }
        }
        d.add(x.cost());
        d.add(x.bestCost());
        d.add(saved);
        return d;
    }

    private static void dueDigest(String name, BatchMachine x, Digest d) {
        Checks.due("digest() of " + name, () -> x.digest(), d.hash.longValue());
    }

    private static void digestOfANewObject() {
        Checks.sentence("Returns a hash of the state.");
        BatchMachine x = new BatchMachine();
        dueDigest("a new object", x, digestOf(x, 0, new int[20], new int[] {0, 1, 1}, 0));
    }

    private static void digestOfAFullObject() {
        Checks.sentence("Start with h = 2887 and, for each of the following values v, set h = 31 * h + v");
        int[] setups = new int[20];
        for (int k = 0; k < 20; k++) {
            setups[k] = 60 - k;
        }
        BatchMachine x = full();
        dueDigest("a full object", x, digestOf(x, 60, setups, new int[] {1, 0, 4}, 4));
        x.setMode(false, true);
        x.setObjective(0);
        x.keepRule(0);
        x.undo();
        x.undo();
        x.clearText();
        dueDigest("a full object, changed", x, digestOf(x, 0, setups, new int[] {0, 1, 4}, 2));
        x.setMode(true, true);
        x.append(127);
        dueDigest("a full object, changed again", x, digestOf(x, 1, setups, new int[] {1, 1, 4}, 3));
    }

    private static void digestWithOverflow() {
        Checks.sentence("Returns the hash, with the overflow of long arithmetic ignored.");
        List<BatchMachine> objects = new ArrayList<>();
        objects.add(new BatchMachine());
        objects.add(Checks.equalJobs(1));
        BatchMachine eight = Checks.equalJobs(8);
        Checks.parse(eight, "0/1/2/3/4/5/6/7");
        eight.clearText();
        objects.add(eight);
        int above = 0;
        int below = 0;
        for (BatchMachine x : objects) {
            int saved = Math.min(4, x.jobs() == 8 ? 9 : x.jobs());
            Digest d = digestOf(x, 0, new int[20], new int[] {0, 1, 1}, saved);
            Checks.dueTrue("the hash is longer than a long", d.hash.bitLength() > 63);
            dueDigest(x.jobs() + " jobs", x, d);
            above += x.digest() > 0 ? 1 : 0;
            below += x.digest() < 0 ? 1 : 0;
        }
        Checks.dueTrue("digests above and below 0", above > 0 && below > 0);
    }

    private static void digestBelowZero() {
        Checks.sentence("cost(); bestCost(); the number of saved states.");
        BatchMachine x = Checks.machine(new int[] {0, 1, 0, 500, 1}, new int[] {0, 1, 0, 400, 1});
        x.setObjective(4);
        Checks.parse(x, "0");
        Checks.due("cost()", () -> x.cost(), -499);
        Checks.due("bestCost()", () -> x.bestCost(), -399);
        dueDigest("costs below 0", x, digestOf(x, 1, new int[20], new int[] {0, 1, 4}, 4));
    }

    private static void digestOfTheText() {
        Checks.sentence("the length of the text;");
        BatchMachine x = new BatchMachine();
        BatchMachine y = new BatchMachine();
        for (int length = 1; length <= 60; length++) {
            x.append(48);
            y.append(127);
            // Its bytes are not in the digest.
            Checks.due("digest() of " + length + " bytes", () -> x.digest(), y.digest());
        }
        dueDigest("60 bytes", x, digestOf(x, 60, new int[20], new int[] {0, 1, 1}, 0));
    }

    private static void digestOfSavedStates() {
        Checks.sentence("the number of saved states.");
        BatchMachine x = new BatchMachine();
        long start = x.digest();
        for (int calls = 1; calls <= 6; calls++) {
            x.setObjective(1);
            Checks.due("digest() behind " + calls + " calls", () -> x.digest(), start + Math.min(4, calls));
        }
        for (int left = 3; left >= 0; left--) {
            x.undo();
            Checks.due("digest() with " + left + " states", () -> x.digest(), start + left);
        }
    }

    private static void upToTheLastCall() {
        Checks.sentence("An object is used for at most 512 calls after it has been made;");
        BatchMachine x = new BatchMachine();
        x.addJob(0, 10, 0, 30, 2);
        for (int call = 2; call <= 510; call++) {
            x.setJob(0, 1, 1 + call % 50);
        }
        Checks.due("call 511: undo()", () -> x.undo(), 3);
        Checks.due("call 512: job(0, 1)", () -> x.job(0, 1), 1 + 509 % 50);
    }

    private static void objectsApart() {
        Checks.sentence("Creates a machine without jobs, with all setup times 0.");
        BatchMachine x = new BatchMachine();
        long fresh = x.digest();
        BatchMachine y = full();
        long busy = y.digest();
        BatchMachine z = new BatchMachine();
        Checks.due("digest() of an object beside another", () -> x.digest(), fresh);
        Checks.due("digest() of an object made later", () -> z.digest(), fresh);
        x.keepBest();
        z.addJob(0, 1, 0, 0, 1);
        z.bestCost();
        Checks.due("digest() of the busy object", () -> y.digest(), busy);
    }
}
