import java.util.Arrays;

/**
 * A scheduler for one machine that processes jobs in batches. The document
 * (../shared/DOC.md) tells what each call answers; README.md tells how the
 * class is built.
 *
 * All rows are made when an object is made and are used again by every call,
 * so that a call makes no object.
 */
public final class BatchMachine {

    /** There is no such thing. */
    public static final int NONE = -1;

    private static final int MAX_JOBS = 8;
    private static final int MAX_SETS = 256;
    private static final int FAMILIES = 4;
    private static final int VALUES = 5;
    private static final int MAX_SETUP = 60;
    private static final int MAX_RELEASE = 300;
    private static final int MAX_DELAY = 100;
    private static final int OBJECTIVES = 6;
    private static final int RULES = 4;
    private static final int MAX_STEPS = 50;
    private static final int MAX_TEXT = 60;
    private static final int MAX_BYTE = 127;
    private static final int SLASH = 47;
    private static final int ZERO = 48;
    private static final int SYNTAX_ERROR = -10;
    private static final int MAX_SAVED = 4;
    private static final long DIGEST_START = 2887L;

    private static final int FAMILY = 0;
    private static final int TIME = 1;
    private static final int RELEASE = 2;
    private static final int DUE = 3;
    private static final int WEIGHT = 4;
    private static final int[] LEAST_VALUE = {0, 1, 0, 0, 1};
    private static final int[] GREATEST_VALUE = {3, 50, 300, 500, 9};

    private static final int OBJECTIVE_FLOW = 0;
    private static final int OBJECTIVE_TARDINESS = 1;
    private static final int OBJECTIVE_SQUARES = 2;
    private static final int OBJECTIVE_LATE = 3;
    private static final int OBJECTIVE_LATENESS = 4;

    /** Below every penalty, and far enough from the end of long to be added to. */
    private static final long NOTHING = -1000000000000L;

    private final State now;
    private final State[] saved;
    private int savedCount;
    private final int[] text;
    private int textLength;
    private final Plan draft;
    private final Timing timing;
    private final Shop otherShop;
    private final Search search;

    public BatchMachine() {
        now = new State();
        saved = new State[MAX_SAVED];
        for (int i = 0; i < MAX_SAVED; i++) {
            saved[i] = new State();
        }
        text = new int[MAX_TEXT];
        draft = new Plan();
        timing = new Timing();
        otherShop = new Shop();
        search = new Search();
    }

    // ---- jobs and settings

    public int addJob(int family, int time, int release, int due, int weight)
            throws IllegalArgumentException, IllegalStateException {
        if (!isValue(FAMILY, family) || !isValue(TIME, time) || !isValue(RELEASE, release)
                || !isValue(DUE, due) || !isValue(WEIGHT, weight)) {
            throw new IllegalArgumentException("a value of the job is out of range");
        }
        if (now.shop.count >= MAX_JOBS) {
            throw new IllegalStateException("there are 8 jobs");
        }
        saveState();
        int number = now.shop.count;
        now.shop.values[FAMILY][number] = family;
        now.shop.values[TIME][number] = time;
        now.shop.values[RELEASE][number] = release;
        now.shop.values[DUE][number] = due;
        now.shop.values[WEIGHT][number] = weight;
        now.shop.count = number + 1;
        now.bestKnown = false;
        return number;
    }

    public int removeJob(int job) throws IndexOutOfBoundsException {
        if (!isJob(job)) {
            throw new IndexOutOfBoundsException("there is no such job");
        }
        saveState();
        now.shop.dropJob(job);
        now.kept.dropJob(job);
        now.bestKnown = false;
        return now.shop.count;
    }

    public int setJob(int job, int what, int value)
            throws IndexOutOfBoundsException, IllegalArgumentException {
        if (!isJob(job)) {
            throw new IndexOutOfBoundsException("there is no such job");
        }
        if (!isValue(what, value)) {
            throw new IllegalArgumentException("what or value is out of range");
        }
        saveState();
        int previous = now.shop.values[what][job];
        now.shop.values[what][job] = value;
        if (what == FAMILY && previous != value) {
            now.kept.makeEmpty();
        }
        now.bestKnown = false;
        return previous;
    }

    public int job(int job, int what)
            throws IndexOutOfBoundsException, IllegalArgumentException {
        if (!isJob(job)) {
            throw new IndexOutOfBoundsException("there is no such job");
        }
        if (what < 0 || what >= VALUES) {
            throw new IllegalArgumentException("what is out of range");
        }
        return now.shop.values[what][job];
    }

    public int jobs() {
        return now.shop.count;
    }

    public int setSetup(int from, int to, int time)
            throws IndexOutOfBoundsException, IllegalArgumentException {
        if (from < NONE || from >= FAMILIES || to < 0 || to >= FAMILIES) {
            throw new IndexOutOfBoundsException("there is no such family");
        }
        if (time < 0 || time > MAX_SETUP) {
            throw new IllegalArgumentException("time is out of range");
        }
        saveState();
        int previous = now.shop.setups[from + 1][to];
        now.shop.setups[from + 1][to] = time;
        now.bestKnown = false;
        return previous;
    }

    public int setMode(boolean batch, boolean early) {
        saveState();
        int previous = (now.shop.whole ? 2 : 0) + (now.shop.early ? 1 : 0);
        now.shop.whole = batch;
        now.shop.early = early;
        now.bestKnown = false;
        return previous;
    }

    public int setObjective(int objective) throws IllegalArgumentException {
        if (objective < 0 || objective >= OBJECTIVES) {
            throw new IllegalArgumentException("objective is out of range");
        }
        saveState();
        int previous = now.shop.objective;
        now.shop.objective = objective;
        now.bestKnown = false;
        return previous;
    }

    // ---- the kept schedule

    public int append(int value) throws IllegalArgumentException, IllegalStateException {
        if (value < 0 || value > MAX_BYTE) {
            throw new IllegalArgumentException("value is out of range");
        }
        if (textLength >= MAX_TEXT) {
            throw new IllegalStateException("the text has 60 bytes");
        }
        text[textLength] = value;
        textLength = textLength + 1;
        return textLength;
    }

    public int clearText() {
        int previous = textLength;
        textLength = 0;
        return previous;
    }

    public int parse() {
        int error = readText();
        if (error != NONE) {
            return SYNTAX_ERROR - error;
        }
        saveState();
        now.kept.takeFrom(draft);
        return now.kept.batchCount;
    }

    public long keepRule(int rule) throws IllegalArgumentException {
        if (rule < 0 || rule >= RULES) {
            throw new IllegalArgumentException("rule is out of range");
        }
        saveState();
        long cost = costOfRule(now.shop, rule, NONE);
        now.kept.takeFrom(draft);
        return cost;
    }

    public long keepBest() {
        // Found before the state is saved, so that undo does not lose it.
        long best = presentBest();
        saveState();
        // The first schedule that the search meets with this cost is the best
        // schedule, because it goes through them in the order of the document.
        search.run(now.shop, NONE, best + 1, best);
        search.writePlan(now.kept);
        return best;
    }

    public int improve(int steps) throws IllegalArgumentException {
        if (steps < 0 || steps > MAX_STEPS) {
            throw new IllegalArgumentException("steps is out of range");
        }
        saveState();
        for (int made = 0; made < steps; made++) {
            if (!makeStep()) {
                return made;
            }
        }
        return steps;
    }

    public int batches() {
        return now.kept.batchCount;
    }

    public int batch(int batch, int what)
            throws IndexOutOfBoundsException, IllegalArgumentException {
        if (batch < 0 || batch >= now.kept.batchCount) {
            throw new IndexOutOfBoundsException("there is no such batch");
        }
        if (what < 0 || what >= Timing.BATCH_VALUES) {
            throw new IllegalArgumentException("what is out of range");
        }
        timing.follow(now.shop, now.kept);
        return timing.batchValues[what][batch];
    }

    public int jobAt(int batch, int index) throws IndexOutOfBoundsException {
        if (batch < 0 || batch >= now.kept.batchCount
                || index < 0 || index >= now.kept.lengthOf(batch)) {
            throw new IndexOutOfBoundsException("there is no such batch or place");
        }
        return now.kept.order[now.kept.beginOf(batch) + index];
    }

    public int planned(int job, int what)
            throws IndexOutOfBoundsException, IllegalArgumentException {
        if (!isJob(job)) {
            throw new IndexOutOfBoundsException("there is no such job");
        }
        if (what < 0 || what >= Timing.JOB_VALUES) {
            throw new IllegalArgumentException("what is out of range");
        }
        timing.follow(now.shop, now.kept);
        return timing.jobValues[what][job];
    }

    public long cost() {
        return timing.follow(now.shop, now.kept);
    }

    public int total(int what) throws IllegalArgumentException {
        if (what < 0 || what >= Timing.TOTALS) {
            throw new IllegalArgumentException("what is out of range");
        }
        timing.follow(now.shop, now.kept);
        return timing.totals[what];
    }

    // ---- exact values

    public long bestCost() {
        return presentBest();
    }

    public long ruleCost(int rule) throws IllegalArgumentException {
        if (rule < 0 || rule >= RULES) {
            throw new IllegalArgumentException("rule is out of range");
        }
        return costOfRule(now.shop, rule, NONE);
    }

    public long bestWithout(int job) throws IndexOutOfBoundsException {
        if (!isJob(job)) {
            throw new IndexOutOfBoundsException("there is no such job");
        }
        otherShop.takeFrom(now.shop);
        otherShop.dropJob(job);
        return leastCost(otherShop, NONE);
    }

    public long bestWithFirst(int job) throws IndexOutOfBoundsException {
        if (!isJob(job)) {
            throw new IndexOutOfBoundsException("there is no such job");
        }
        return leastCost(now.shop, job);
    }

    public int latestRelease(int job) throws IndexOutOfBoundsException {
        if (!isJob(job)) {
            throw new IndexOutOfBoundsException("there is no such job");
        }
        long best = presentBest();
        otherShop.takeFrom(now.shop);
        int release = now.shop.values[RELEASE][job];
        int limit = Math.min(release + MAX_DELAY, MAX_RELEASE);
        for (int i = 0; i < MAX_DELAY && release < limit; i++) {
            otherShop.values[RELEASE][job] = release + 1;
            if (search.run(otherShop, NONE, best + 1, best) > best) {
                return release;
            }
            search.writePlan(draft);
            release = latestInDraft(job, release + 1, limit, best);
        }
        return release;
    }

    public long setupPrice() {
        long best = presentBest();
        otherShop.takeFrom(now.shop);
        otherShop.dropSetups();
        return best - leastCost(otherShop, NONE);
    }

    // ---- state

    public int undo() throws IllegalStateException {
        if (savedCount <= 0) {
            throw new IllegalStateException("there is no saved state");
        }
        savedCount = savedCount - 1;
        now.takeFrom(saved[savedCount]);
        return savedCount;
    }

    public long digest() {
        long hash = mixed(DIGEST_START, textLength);
        hash = now.shop.mixInto(hash);
        long cost = timing.follow(now.shop, now.kept);
        hash = mixed(hash, now.kept.batchCount);
        for (int b = 0; b < now.kept.batchCount; b++) {
            for (int what = 0; what < Timing.BATCH_VALUES; what++) {
                hash = mixed(hash, timing.batchValues[what][b]);
            }
            for (int place = now.kept.beginOf(b); place < now.kept.ends[b]; place++) {
                hash = mixed(hash, now.kept.order[place]);
            }
        }
        hash = mixed(hash, cost);
        hash = mixed(hash, presentBest());
        return mixed(hash, savedCount);
    }

    // ---- what the calls share

    private static long mixed(long hash, long value) {
        return 31L * hash + value;
    }

    private static boolean isValue(int what, int value) {
        return what >= 0 && what < VALUES
                && value >= LEAST_VALUE[what] && value <= GREATEST_VALUE[what];
    }

    private boolean isJob(int job) {
        return job >= 0 && job < now.shop.count;
    }

    private void saveState() {
        if (savedCount >= MAX_SAVED) {
            State oldest = saved[0];
            for (int i = 1; i < MAX_SAVED; i++) {
                saved[i - 1] = saved[i];
            }
            saved[MAX_SAVED - 1] = oldest;
            savedCount = MAX_SAVED - 1;
        }
        saved[savedCount].takeFrom(now);
        savedCount = savedCount + 1;
    }

    /** Reads the text into the draft; answers the syntax error position, or NONE. */
    private int readText() {
        draft.makeEmpty();
        boolean fresh = true;
        int used = 0;
        for (int i = 0; i < textLength; i++) {
            if (text[i] == SLASH) {
                if (fresh) {
                    return i;
                }
                fresh = true;
            } else {
                int job = text[i] - ZERO;
                if (!isJob(job) || (used >> job & 1) != 0 || (!fresh && !fitsDraft(job))) {
                    return i;
                }
                draft.addLast(job, fresh);
                used = used | 1 << job;
                fresh = false;
            }
        }
        return fresh && textLength > 0 ? textLength : NONE;
    }

    private boolean fitsDraft(int job) {
        int[] family = now.shop.values[FAMILY];
        return draft.size > 0 && family[draft.order[draft.size - 1]] == family[job];
    }

    /** Writes a rule's schedule into the draft (with one job moved ahead unless NONE). */
    private long costOfRule(Shop shop, int rule, int ahead) {
        draft.size = shop.count;
        shop.orderByRule(rule, draft.order);
        if (ahead != NONE) {
            draft.dropJobFromOrder(ahead);
            draft.putAt(0, ahead);
        }
        draft.groupByFamily(shop);
        return timing.follow(shop, draft);
    }

    private long presentBest() {
        if (!now.bestKnown) {
            now.best = leastCost(now.shop, NONE);
            now.bestKnown = true;
        }
        return now.best;
    }

    /** The smallest cost of the complete schedules that begin with a job (with any if NONE). */
    private long leastCost(Shop shop, int first) {
        if (shop.count == 0) {
            return 0;
        }
        long known = costOfRule(shop, 0, first);
        for (int rule = 1; rule < RULES; rule++) {
            known = Math.min(known, costOfRule(shop, rule, first));
        }
        return search.run(shop, first, known, NOTHING);
    }

    /**
     * The latest release of a job in the other shop with which the draft costs
     * no more than the best. No schedule gets cheaper when a release is later,
     * so halving the range is exact.
     */
    private int latestInDraft(int job, int known, int limit, long best) {
        int good = known;
        int bad = limit + 1;
        for (int i = 0; i < MAX_DELAY && bad - good > 1; i++) {
            int middle = (good + bad) >> 1;
            otherShop.values[RELEASE][job] = middle;
            if (timing.follow(otherShop, draft) <= best) {
                good = middle;
            } else {
                bad = middle;
            }
        }
        return good;
    }

    private boolean makeStep() {
        long present = timing.follow(now.shop, now.kept);
        for (int i = 0; i + 1 < now.kept.size; i++) {
            if (tryMove(i, i + 1, present)) {
                return true;
            }
        }
        for (int i = 0; i < now.kept.size; i++) {
            for (int j = 0; j < now.kept.size; j++) {
                if (j != i && tryMove(i, j, present)) {
                    return true;
                }
            }
        }
        return false;
    }

    /** An exchange of neighbors is a move by one place. */
    private boolean tryMove(int from, int to, long present) {
        draft.takeMoved(now.kept, from, to);
        draft.groupByFamily(now.shop);
        if (timing.follow(now.shop, draft) >= present) {
            return false;
        }
        now.kept.takeFrom(draft);
        return true;
    }

    /** All that undo brings back. */
    private static final class State {
        final Shop shop = new Shop();
        final Plan kept = new Plan();
        // The best cost is kept beside what it follows from, as it is dear to find.
        boolean bestKnown;
        long best;

        void takeFrom(State other) {
            shop.takeFrom(other.shop);
            kept.takeFrom(other.kept);
            bestKnown = other.bestKnown;
            best = other.best;
        }
    }

    /** The jobs and the settings: all that the cost of a schedule follows from. */
    private static final class Shop {
        int count;
        final int[][] values = new int[VALUES][MAX_JOBS];
        /** In row 0 the initial setups, in row f + 1 those from family f. */
        final int[][] setups = new int[FAMILIES + 1][FAMILIES];
        boolean whole;
        boolean early = true;
        int objective = 1;

        void takeFrom(Shop other) {
            count = other.count;
            for (int what = 0; what < VALUES; what++) {
                System.arraycopy(other.values[what], 0, values[what], 0, MAX_JOBS);
            }
            for (int row = 0; row <= FAMILIES; row++) {
                System.arraycopy(other.setups[row], 0, setups[row], 0, FAMILIES);
            }
            whole = other.whole;
            early = other.early;
            objective = other.objective;
        }

        void dropJob(int job) {
            for (int what = 0; what < VALUES; what++) {
                for (int j = job + 1; j < count; j++) {
                    values[what][j - 1] = values[what][j];
                }
            }
            count = count - 1;
        }

        /** Leaves only the setups from a family to itself. */
        void dropSetups() {
            for (int row = 0; row <= FAMILIES; row++) {
                for (int to = 0; to < FAMILIES; to++) {
                    if (row != to + 1) {
                        setups[row][to] = 0;
                    }
                }
            }
        }

        /** What a job that is completed at a time adds to the cost. */
        long penaltyOf(int job, int completed) {
            int late = completed - values[DUE][job];
            if (objective == OBJECTIVE_LATENESS) {
                return late;
            }
            if (objective > OBJECTIVE_LATENESS) {
                return completed;
            }
            if (objective == OBJECTIVE_FLOW) {
                return (long) values[WEIGHT][job] * completed;
            }
            if (late <= 0) {
                return 0;
            }
            long weight = values[WEIGHT][job];
            if (objective == OBJECTIVE_TARDINESS) {
                return weight * late;
            }
            return objective == OBJECTIVE_SQUARES ? weight * late * late : weight;
        }

        long startingSum() {
            return objective >= OBJECTIVE_LATENESS ? NOTHING : 0;
        }

        long joined(long sum, long penalty) {
            return objective >= OBJECTIVE_LATENESS ? Math.max(sum, penalty) : sum + penalty;
        }

        /** Writes all jobs in the order of a rule. */
        void orderByRule(int rule, int[] order) {
            for (int job = 0; job < count; job++) {
                int place = job;
                while (place > 0 && compareByRule(rule, order[place - 1], job) > 0) {
                    order[place] = order[place - 1];
                    place--;
                }
                order[place] = job;
            }
        }

        /** Above 0 if the rule puts job b ahead of job a; 0 if the job numbers decide. */
        private int compareByRule(int rule, int a, int b) {
            if (rule == 0) {
                return Integer.compare(values[RELEASE][a], values[RELEASE][b]);
            }
            if (rule == 1) {
                return Integer.compare(values[DUE][a], values[DUE][b]);
            }
            if (rule == 2) {
                return Integer.compare(values[TIME][a] * values[WEIGHT][b],
                        values[TIME][b] * values[WEIGHT][a]);
            }
            return compareByFamily(a, b);
        }

        private int compareByFamily(int a, int b) {
            int familyA = values[FAMILY][a];
            int familyB = values[FAMILY][b];
            if (familyA == familyB) {
                return Integer.compare(values[DUE][a], values[DUE][b]);
            }
            int dueA = dueOfFamily(familyA);
            int dueB = dueOfFamily(familyB);
            return dueA != dueB ? Integer.compare(dueA, dueB) : Integer.compare(familyA, familyB);
        }

        private int dueOfFamily(int family) {
            int least = GREATEST_VALUE[DUE];
            for (int job = 0; job < count; job++) {
                if (values[FAMILY][job] == family && values[DUE][job] < least) {
                    least = values[DUE][job];
                }
            }
            return least;
        }

        long mixInto(long start) {
            long hash = mixed(start, count);
            for (int job = 0; job < count; job++) {
                for (int what = 0; what < VALUES; what++) {
                    hash = mixed(hash, values[what][job]);
                }
            }
            for (int row = 0; row <= FAMILIES; row++) {
                for (int to = 0; to < FAMILIES; to++) {
                    hash = mixed(hash, setups[row][to]);
                }
            }
            hash = mixed(hash, whole ? 1 : 0);
            hash = mixed(hash, early ? 1 : 0);
            return mixed(hash, objective);
        }
    }

    /** A schedule: a sequence of jobs, and where its batches end. */
    private static final class Plan {
        int size;
        int batchCount;
        final int[] order = new int[MAX_JOBS];
        /** For each batch the place behind its last job. */
        final int[] ends = new int[MAX_JOBS];

        void takeFrom(Plan other) {
            size = other.size;
            batchCount = other.batchCount;
            System.arraycopy(other.order, 0, order, 0, MAX_JOBS);
            System.arraycopy(other.ends, 0, ends, 0, MAX_JOBS);
        }

        void makeEmpty() {
            size = 0;
            batchCount = 0;
        }

        int beginOf(int b) {
            return b > 0 ? ends[b - 1] : 0;
        }

        int lengthOf(int b) {
            return ends[b] - beginOf(b);
        }

        void addLast(int job, boolean fresh) {
            if (size >= MAX_JOBS) {
                return;
            }
            order[size] = job;
            size = size + 1;
            if (fresh || batchCount == 0) {
                batchCount = batchCount + 1;
            }
            ends[batchCount - 1] = size;
        }

        /** Into the sequence only: groupByFamily makes the batches anew. */
        void putAt(int place, int job) {
            if (size >= MAX_JOBS || place < 0 || place > size) {
                return;
            }
            for (int i = size; i > place; i--) {
                order[i] = order[i - 1];
            }
            order[place] = job;
            size = size + 1;
        }

        /** From the sequence only, the numbers stay: groupByFamily makes the batches anew. */
        void dropJobFromOrder(int job) {
            int left = 0;
            for (int i = 0; i < size; i++) {
                if (order[i] != job) {
                    order[left] = order[i];
                    left++;
                }
            }
            size = left;
        }

        void takeMoved(Plan other, int from, int to) {
            makeEmpty();
            for (int i = 0; i < other.size; i++) {
                if (i != from) {
                    putAt(size, other.order[i]);
                }
            }
            putAt(to, other.order[from]);
        }

        void groupByFamily(Shop shop) {
            int[] family = shop.values[FAMILY];
            batchCount = 0;
            for (int i = 0; i < size; i++) {
                if (i == 0 || family[order[i]] != family[order[i - 1]]) {
                    batchCount = batchCount + 1;
                }
                ends[batchCount - 1] = i + 1;
            }
        }

        /** Takes a job out and counts those behind it one lower; empty batches go. */
        void dropJob(int job) {
            int jobsLeft = 0;
            int batchesLeft = 0;
            int place = 0;
            for (int b = 0; b < batchCount; b++) {
                int begin = jobsLeft;
                int end = ends[b];
                for (; place < end; place++) {
                    int number = order[place];
                    if (number != job) {
                        order[jobsLeft] = number > job ? number - 1 : number;
                        jobsLeft++;
                    }
                }
                if (jobsLeft > begin) {
                    ends[batchesLeft] = jobsLeft;
                    batchesLeft++;
                }
            }
            size = jobsLeft;
            batchCount = batchesLeft;
        }
    }

    /** When a plan's setups and jobs begin and end. */
    private static final class Timing {
        static final int BATCH_VALUES = 6;
        static final int JOB_VALUES = 4;
        static final int TOTALS = 3;

        /** The values of batch(), by what and batch. */
        final int[][] batchValues = new int[BATCH_VALUES][MAX_JOBS];
        /** The values of planned(), by what and job. */
        final int[][] jobValues = new int[JOB_VALUES][MAX_JOBS];
        final int[] totals = new int[TOTALS];
        private int free;

        /** Follows the machine through a plan; answers the cost. */
        long follow(Shop shop, Plan plan) {
            for (int what = 0; what < JOB_VALUES; what++) {
                Arrays.fill(jobValues[what], NONE);
            }
            Arrays.fill(totals, 0);
            free = 0;
            int last = NONE;
            for (int b = 0; b < plan.batchCount; b++) {
                last = followBatch(shop, plan, b, last);
            }
            totals[2] = free - totals[0] - totals[1];
            return costOf(shop, plan);
        }

        /** Answers the family of the batch. */
        private int followBatch(Shop shop, Plan plan, int b, int last) {
            int begin = plan.beginOf(b);
            int end = plan.ends[b];
            int family = shop.values[FAMILY][plan.order[begin]];
            int ready = readyTime(shop, plan, begin, end);
            int setup = shop.setups[last + 1][family];
            int setupStart = shop.early ? free : Math.max(free, ready);
            int setupEnd = setupStart + setup;
            free = Math.max(setupEnd, ready);
            int firstStart = free;
            for (int place = begin; place < end; place++) {
                followJob(shop, plan.order[place], b);
            }
            for (int place = begin; place < end; place++) {
                complete(shop, plan.order[place]);
            }
            batchValues[0][b] = family;
            batchValues[1][b] = end - begin;
            batchValues[2][b] = setupStart;
            batchValues[3][b] = setupEnd;
            batchValues[4][b] = firstStart;
            batchValues[5][b] = free;
            totals[0] += setup;
            return family;
        }

        private static int readyTime(Shop shop, Plan plan, int begin, int end) {
            int ready = shop.values[RELEASE][plan.order[begin]];
            if (shop.whole) {
                for (int place = begin + 1; place < end; place++) {
                    ready = Math.max(ready, shop.values[RELEASE][plan.order[place]]);
                }
            }
            return ready;
        }

        /** In a whole batch no job waits: the batch's ready time is not before its release. */
        private void followJob(Shop shop, int job, int b) {
            int start = Math.max(free, shop.values[RELEASE][job]);
            free = start + shop.values[TIME][job];
            jobValues[0][job] = start;
            jobValues[1][job] = free;
            jobValues[3][job] = b;
            totals[1] += shop.values[TIME][job];
        }

        private void complete(Shop shop, int job) {
            if (shop.whole) {
                jobValues[1][job] = free;
            }
            jobValues[2][job] = Math.max(0, jobValues[1][job] - shop.values[DUE][job]);
        }

        private long costOf(Shop shop, Plan plan) {
            if (plan.size == 0) {
                return 0;
            }
            long sum = shop.startingSum();
            for (int i = 0; i < plan.size; i++) {
                int job = plan.order[i];
                sum = shop.joined(sum, shop.penaltyOf(job, jobValues[1][job]));
            }
            return sum;
        }
    }

    /**
     * The exact search, over sequences of sets of jobs. With batch availability
     * a set is a batch. With item availability each set is one job, and a job
     * behind one of its own family needs no setup: to part such jobs never pays,
     * because the cost never falls when a job is completed later.
     */
    private static final class Search {
        /** So many (time, cost) pairs are remembered for the same jobs done and last family. */
        private static final int SEEN = 3;

        private final Shop shop = new Shop();
        private int all;
        private int first;
        private long best;
        private long floor;
        private int setCount;
        private final int[] sets = new int[MAX_SETS];
        private final int[] familyOf = new int[MAX_SETS];
        private final int[] readyOf = new int[MAX_SETS];
        private final int[] workOf = new int[MAX_SETS];
        private final int[][] gaps = new int[FAMILIES + 1][FAMILIES];
        /** For each family the least setup from another family that has jobs. */
        private final int[] leastGap = new int[FAMILIES];
        private final int[] ranked = new int[MAX_JOBS];
        private final int[] chosen = new int[MAX_JOBS];
        private final int[] found = new int[MAX_JOBS];
        private int foundCount;
        private final int[] seenCount = new int[MAX_SETS * FAMILIES];
        private final int[] seenTime = new int[MAX_SETS * FAMILIES * SEEN];
        private final long[] seenCost = new long[MAX_SETS * FAMILIES * SEEN];

        /**
         * Looks for complete schedules that cost less than the ceiling; stops at
         * one that costs no more than the floor. Answers the least cost found, or
         * the ceiling.
         */
        long run(Shop shopOfJobs, int firstJob, long ceiling, long lowest) {
            shop.takeFrom(shopOfJobs);
            first = firstJob;
            best = ceiling;
            floor = lowest;
            foundCount = 0;
            all = (1 << shop.count) - 1;
            fillGaps();
            fillSets();
            // The orders in which, without setups and releases, the sum or the
            // greatest of the penalties is least: the bounds follow them.
            shop.orderByRule(shop.objective < OBJECTIVE_LATE ? 2 : 1, ranked);
            Arrays.fill(seenCount, 0);
            if (shop.count > 0) {
                extend(this, 0, 0, NONE, 0, shop.startingSum());
            }
            return best;
        }

        /** Writes the cheapest schedule that the last run has found. */
        void writePlan(Plan plan) {
            plan.makeEmpty();
            for (int i = 0; i < foundCount; i++) {
                boolean fresh = true;
                for (int job = 0; job < shop.count; job++) {
                    if ((found[i] >> job & 1) != 0) {
                        plan.addLast(job, fresh);
                        fresh = false;
                    }
                }
            }
            if (!shop.whole) {
                plan.groupByFamily(shop);
            }
        }

        private void fillGaps() {
            for (int row = 0; row <= FAMILIES; row++) {
                System.arraycopy(shop.setups[row], 0, gaps[row], 0, FAMILIES);
            }
            for (int family = 0; family < FAMILIES; family++) {
                leastGap[family] = MAX_SETUP;
                if (!shop.whole) {
                    gaps[family + 1][family] = 0;
                }
            }
            for (int job = 0; job < shop.count; job++) {
                int from = shop.values[FAMILY][job];
                for (int to = 0; to < FAMILIES; to++) {
                    if (to != from) {
                        leastGap[to] = Math.min(leastGap[to], gaps[from + 1][to]);
                    }
                }
            }
        }

        /** Lists the sets that can come next, as numbers in ascending order. */
        private void fillSets() {
            setCount = 0;
            for (int job = 0; job < shop.count; job++) {
                // What can stand beside it in a set whose greatest job it is.
                int rests = shop.whole ? 1 << job : 1;
                for (int rest = 0; rest < rests; rest++) {
                    describeSet(rest, job);
                    int set = rest | 1 << job;
                    if (familyOf[set] != NONE) {
                        sets[setCount] = set;
                        setCount++;
                    }
                }
            }
        }

        /** A set of several families gets NONE as its family. */
        private void describeSet(int rest, int job) {
            int set = rest | 1 << job;
            familyOf[set] = shop.values[FAMILY][job];
            readyOf[set] = shop.values[RELEASE][job];
            workOf[set] = shop.values[TIME][job];
            if (rest != 0) {
                if (familyOf[rest] != familyOf[set]) {
                    familyOf[set] = NONE;
                }
                readyOf[set] = Math.max(readyOf[set], readyOf[rest]);
                workOf[set] += workOf[rest];
            }
        }

        private static void extend(Search s, int depth, int done, int last, int free, long sum) {
            if (done == s.all) {
                s.best = sum;
                s.foundCount = depth;
                System.arraycopy(s.chosen, 0, s.found, 0, MAX_JOBS);
                return;
            }
            if (depth >= MAX_JOBS) {
                return;
            }
            for (int i = 0; i < s.setCount && s.best > s.floor; i++) {
                int set = s.sets[i];
                if ((set & done) == 0 && (depth > 0 || s.canBeFirst(set))) {
                    int next = done | set;
                    int family = s.familyOf[set];
                    int end = s.endOf(set, last, free);
                    long cost = s.sumWith(set, end, sum);
                    if (cost < s.best && !s.isOutdone(next, family, end, cost)
                            && s.boundApart(next, family, end, cost) < s.best
                            && s.boundInLine(next, family, end, cost) < s.best) {
                        s.remember(next, family, end, cost);
                        s.chosen[depth] = set;
                        extend(s, depth + 1, next, family, end, cost);
                    }
                }
            }
        }

        private boolean canBeFirst(int set) {
            return first == NONE || (set >> first & 1) != 0;
        }

        private int endOf(int set, int last, int free) {
            int ready = readyOf[set];
            int setupStart = shop.early ? free : Math.max(free, ready);
            return Math.max(setupStart + gaps[last + 1][familyOf[set]], ready) + workOf[set];
        }

        private long sumWith(int set, int end, long sum) {
            long cost = sum;
            for (int job = 0; job < shop.count; job++) {
                if ((set >> job & 1) != 0) {
                    cost = shop.joined(cost, shop.penaltyOf(job, end));
                }
            }
            return cost;
        }

        /** No way on costs less than if each job left were the only one left. */
        private long boundApart(int done, int last, int free, long sum) {
            long bound = sum;
            for (int job = 0; job < shop.count; job++) {
                if ((done >> job & 1) == 0) {
                    int family = shop.values[FAMILY][job];
                    int gap = leastGap[family];
                    if (family == last) {
                        gap = Math.min(gap, gaps[family + 1][family]);
                    }
                    int start = Math.max(free + gap, shop.values[RELEASE][job]);
                    bound = shop.joined(bound,
                            shop.penaltyOf(job, start + shop.values[TIME][job]));
                }
            }
            return bound;
        }

        /**
         * No way on costs less than if the jobs left came at once, one behind
         * the other, without releases and with the next setup only.
         */
        private long boundInLine(int done, int last, int free, long sum) {
            int start = free + nextGap(done, last);
            if (shop.objective >= OBJECTIVE_LATENESS) {
                return greatestInLine(done, start, sum);
            }
            return shop.objective == OBJECTIVE_LATE ? sum : sum + sumInLine(done, start);
        }

        private int nextGap(int done, int last) {
            int gap = MAX_SETUP;
            for (int job = 0; job < shop.count; job++) {
                if ((done >> job & 1) == 0) {
                    gap = Math.min(gap, gaps[last + 1][shop.values[FAMILY][job]]);
                }
            }
            return gap;
        }

        private long greatestInLine(int done, int start, long sum) {
            long greatest = sum;
            int time = start;
            for (int i = 0; i < shop.count; i++) {
                int job = ranked[i];
                if ((done >> job & 1) == 0) {
                    time += shop.values[TIME][job];
                    greatest = Math.max(greatest, shop.penaltyOf(job, time));
                }
            }
            return greatest;
        }

        private long sumInLine(int done, int start) {
            long line = 0;
            long weights = 0;
            int time = start;
            for (int i = 0; i < shop.count; i++) {
                int job = ranked[i];
                if ((done >> job & 1) == 0) {
                    int weight = shop.values[WEIGHT][job];
                    time += shop.values[TIME][job];
                    int due = shop.objective == OBJECTIVE_FLOW ? 0 : shop.values[DUE][job];
                    line += weight * (time - due);
                    weights += weight;
                }
            }
            if (line <= 0 || weights <= 0) {
                return 0;
            }
            // The square of the sum of w * T is at most the sum of w times that of w * T * T.
            return shop.objective == OBJECTIVE_SQUARES
                    ? (line * line + weights - 1) / weights : line;
        }

        /**
         * Whether an earlier state with the same jobs done and the same last
         * family was at least as early and as cheap. Such a state has been
         * searched through already, so this one cannot lead to less.
         */
        private boolean isOutdone(int done, int last, int free, long sum) {
            int key = done * FAMILIES + last;
            int begin = key * SEEN;
            int end = begin + seenCount[key];
            for (int i = begin; i < end; i++) {
                if (seenTime[i] <= free && seenCost[i] <= sum) {
                    return true;
                }
            }
            return false;
        }

        /** Drops what the new state outdoes; if there is still no room, the newest goes. */
        private void remember(int done, int last, int free, long sum) {
            int key = done * FAMILIES + last;
            int begin = key * SEEN;
            int end = begin + seenCount[key];
            int left = begin;
            for (int i = begin; i < end; i++) {
                if (seenTime[i] < free || seenCost[i] < sum) {
                    seenTime[left] = seenTime[i];
                    seenCost[left] = seenCost[i];
                    left++;
                }
            }
            left = Math.min(left, begin + SEEN - 1);
            seenTime[left] = free;
            seenCost[left] = sum;
            seenCount[key] = left + 1 - begin;
        }
    }
}
