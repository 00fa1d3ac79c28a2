import java.util.ArrayDeque;
import java.util.ArrayList;
import java.util.Arrays;
import java.util.Deque;
import java.util.List;

/**
 * The document once more, written as plainly as can be: best schedules by going
 * through every complete schedule. It shares no code with BatchMachine.
 */
final class Model {
    List<int[]> jobs = new ArrayList<>();
    int[] initial = new int[4];
    int[][] setup = new int[4][4];
    boolean batchwise = false;
    boolean early = true;
    int objective = 1;
    List<List<Integer>> kept = new ArrayList<>();
    final List<Integer> text = new ArrayList<>();
    final Deque<Model> saved = new ArrayDeque<>();

    private static final int[] LOW = {0, 1, 0, 0, 1};
    private static final int[] HIGH = {3, 50, 300, 500, 9};

    // ---- state

    private Model copy() {
        Model m = new Model();
        m.take(this);
        return m;
    }

    private void take(Model m) {
        jobs = new ArrayList<>();
        for (int[] j : m.jobs) {
            jobs.add(j.clone());
        }
        initial = m.initial.clone();
        for (int f = 0; f < 4; f++) {
            setup[f] = m.setup[f].clone();
        }
        batchwise = m.batchwise;
        early = m.early;
        objective = m.objective;
        kept = new ArrayList<>();
        for (List<Integer> b : m.kept) {
            kept.add(new ArrayList<>(b));
        }
        exact = null;
    }

    private void save() {
        saved.addLast(copy());
        if (saved.size() > 4) {
            saved.removeFirst();
        }
        exact = null;
    }

    private void needJob(int job) {
        if (job < 0 || job >= jobs.size()) {
            throw new IndexOutOfBoundsException();
        }
    }

    private static void need(boolean holds) {
        if (!holds) {
            throw new IllegalArgumentException();
        }
    }

    private static boolean within(int v, int low, int high) {
        return v >= low && v <= high;
    }

    int undo() {
        if (saved.isEmpty()) {
            throw new IllegalStateException();
        }
        take(saved.removeLast());
        return saved.size();
    }

    // ---- jobs and settings

    int addJob(int family, int time, int release, int due, int weight) {
        int[] v = {family, time, release, due, weight};
        for (int i = 0; i < 5; i++) {
            need(within(v[i], LOW[i], HIGH[i]));
        }
        if (jobs.size() == 8) {
            throw new IllegalStateException();
        }
        save();
        jobs.add(v);
        return jobs.size() - 1;
    }

    int removeJob(int job) {
        needJob(job);
        save();
        jobs.remove(job);
        List<List<Integer>> next = new ArrayList<>();
        for (List<Integer> b : kept) {
            List<Integer> nb = new ArrayList<>();
            for (int j : b) {
                if (j != job) {
                    nb.add(j > job ? j - 1 : j);
                }
            }
            if (!nb.isEmpty()) {
                next.add(nb);
            }
        }
        kept = next;
        return jobs.size();
    }

    int setJob(int job, int what, int value) {
        needJob(job);
        need(within(what, 0, 4) && within(value, LOW[what], HIGH[what]));
        save();
        int previous = jobs.get(job)[what];
        jobs.get(job)[what] = value;
        if (what == 0 && previous != value) {
            kept = new ArrayList<>();
        }
        return previous;
    }

    int job(int job, int what) {
        needJob(job);
        need(within(what, 0, 4));
        return jobs.get(job)[what];
    }

    int setSetup(int from, int to, int time) {
        if (!within(from, -1, 3) || !within(to, 0, 3)) {
            throw new IndexOutOfBoundsException();
        }
        need(within(time, 0, 60));
        save();
        int[] row = from == -1 ? initial : setup[from];
        int previous = row[to];
        row[to] = time;
        return previous;
    }

    int setMode(boolean batch, boolean earlySetups) {
        save();
        int previous = (batchwise ? 2 : 0) + (early ? 1 : 0);
        batchwise = batch;
        early = earlySetups;
        return previous;
    }

    int setObjective(int value) {
        need(within(value, 0, 5));
        save();
        int previous = objective;
        objective = value;
        return previous;
    }

    // ---- the text

    int append(int value) {
        need(within(value, 0, 127));
        if (text.size() == 60) {
            throw new IllegalStateException();
        }
        text.add(value);
        return text.size();
    }

    int clearText() {
        int n = text.size();
        text.clear();
        return n;
    }

    int parse() {
        List<List<Integer>> read = new ArrayList<>();
        List<Integer> batch = new ArrayList<>();
        boolean[] seen = new boolean[8];
        for (int i = 0; i < text.size(); i++) {
            int c = text.get(i);
            if (c == '/') {
                if (batch.isEmpty()) {
                    return -10 - i;
                }
                read.add(batch);
                batch = new ArrayList<>();
                continue;
            }
            int j = c - '0';
            if (j < 0 || j >= jobs.size() || seen[j]) {
                return -10 - i;
            }
            if (!batch.isEmpty() && jobs.get(batch.get(batch.size() - 1))[0] != jobs.get(j)[0]) {
                return -10 - i;
            }
            seen[j] = true;
            batch.add(j);
        }
        if (!text.isEmpty()) {
            if (batch.isEmpty()) {
                return -10 - text.size();
            }
            read.add(batch);
        }
        save();
        kept = read;
        return kept.size();
    }

    // ---- times and costs of a schedule

    static final class Times {
        final List<int[]> batches = new ArrayList<>();
        final int[][] jobs = new int[8][];
        int setups;
        int work;
        int end;
        long cost;
    }

    Times times(List<List<Integer>> schedule) {
        Times t = new Times();
        int machine = 0;
        int before = -1;
        boolean any = false;
        long sum = 0;
        long greatest = Long.MIN_VALUE;
        for (List<Integer> batch : schedule) {
            int family = jobs.get(batch.get(0))[0];
            int ready = jobs.get(batch.get(0))[2];
            if (batchwise) {
                for (int j : batch) {
                    ready = Math.max(ready, jobs.get(j)[2]);
                }
            }
            int setupTime = before == -1 ? initial[family] : setup[before][family];
            int setupStart = machine;
            if (!early && setupStart < ready) {
                setupStart = ready;
            }
            int setupEnd = setupStart + setupTime;
            int clock = setupEnd;
            if (batchwise && clock < ready) {
                clock = ready;
            }
            int firstStart = -1;
            for (int j : batch) {
                if (!batchwise && clock < jobs.get(j)[2]) {
                    clock = jobs.get(j)[2];
                }
                int start = clock;
                if (firstStart == -1) {
                    firstStart = start;
                }
                clock += jobs.get(j)[1];
                t.jobs[j] = new int[] {start, clock, 0, t.batches.size()};
                t.work += jobs.get(j)[1];
            }
            for (int j : batch) {
                if (batchwise) {
                    t.jobs[j][1] = clock;
                }
                int lateness = t.jobs[j][1] - jobs.get(j)[3];
                t.jobs[j][2] = Math.max(0, lateness);
                long w = jobs.get(j)[4];
                long tardiness = t.jobs[j][2];
                any = true;
                switch (objective) {
                    case 0: sum += w * t.jobs[j][1]; break;
                    case 1: sum += w * tardiness; break;
                    case 2: sum += w * tardiness * tardiness; break;
                    case 3: sum += tardiness > 0 ? w : 0; break;
                    case 4: greatest = Math.max(greatest, lateness); break;
                    default: greatest = Math.max(greatest, t.jobs[j][1]); break;
                }
            }
            t.batches.add(new int[] {family, batch.size(), setupStart, setupEnd, firstStart, clock});
            t.setups += setupTime;
            machine = clock;
            before = family;
        }
        t.end = machine;
        t.cost = !any ? 0 : objective >= 4 ? greatest : sum;
        return t;
    }

    int batch(int batch, int what) {
        if (!within(batch, 0, kept.size() - 1)) {
            throw new IndexOutOfBoundsException();
        }
        need(within(what, 0, 5));
        return times(kept).batches.get(batch)[what];
    }

    int jobAt(int batch, int index) {
        if (!within(batch, 0, kept.size() - 1) || !within(index, 0, kept.get(batch).size() - 1)) {
            throw new IndexOutOfBoundsException();
        }
        return kept.get(batch).get(index);
    }

    int planned(int job, int what) {
        needJob(job);
        need(within(what, 0, 3));
        int[] v = times(kept).jobs[job];
        return v == null ? -1 : v[what];
    }

    int total(int what) {
        need(within(what, 0, 2));
        Times t = times(kept);
        return what == 0 ? t.setups : what == 1 ? t.work : t.end - t.setups - t.work;
    }

    // ---- rules and improvement

    private List<List<Integer>> grouped(List<Integer> sequence) {
        List<List<Integer>> out = new ArrayList<>();
        for (int j : sequence) {
            List<Integer> last = out.isEmpty() ? null : out.get(out.size() - 1);
            if (last == null || jobs.get(last.get(0))[0] != jobs.get(j)[0]) {
                last = new ArrayList<>();
                out.add(last);
            }
            last.add(j);
        }
        return out;
    }

    private List<List<Integer>> ofRule(int rule) {
        List<Integer> sequence = new ArrayList<>();
        int[] familyDue = {1000, 1000, 1000, 1000};
        for (int j = 0; j < jobs.size(); j++) {
            sequence.add(j);
            int f = jobs.get(j)[0];
            familyDue[f] = Math.min(familyDue[f], jobs.get(j)[3]);
        }
        sequence.sort((x, y) -> {
            int[] a = jobs.get(x);
            int[] b = jobs.get(y);
            int c;
            if (rule == 0) {
                c = a[2] - b[2];
            } else if (rule == 1) {
                c = a[3] - b[3];
            } else if (rule == 2) {
                c = a[1] * b[4] - b[1] * a[4];
            } else {
                c = familyDue[a[0]] - familyDue[b[0]];
                c = c != 0 ? c : a[0] - b[0];
                c = c != 0 ? c : a[3] - b[3];
            }
            return c != 0 ? c : x - y;
        });
        return grouped(sequence);
    }

    long ruleCost(int rule) {
        need(within(rule, 0, 3));
        return times(ofRule(rule)).cost;
    }

    long keepRule(int rule) {
        need(within(rule, 0, 3));
        save();
        kept = ofRule(rule);
        return times(kept).cost;
    }

    int improve(int steps) {
        need(within(steps, 0, 50));
        save();
        int made = 0;
        while (made < steps && step()) {
            made++;
        }
        return made;
    }

    private boolean step() {
        long present = times(kept).cost;
        List<Integer> sequence = new ArrayList<>();
        for (List<Integer> b : kept) {
            sequence.addAll(b);
        }
        List<List<Integer>> neighbors = new ArrayList<>();
        for (int i = 0; i + 1 < sequence.size(); i++) {
            List<Integer> s = new ArrayList<>(sequence);
            s.set(i, sequence.get(i + 1));
            s.set(i + 1, sequence.get(i));
            neighbors.add(s);
        }
        for (int i = 0; i < sequence.size(); i++) {
            for (int j = 0; j < sequence.size(); j++) {
                if (j != i) {
                    List<Integer> s = new ArrayList<>(sequence);
                    Integer moved = s.remove(i);
                    s.add(j, moved);
                    neighbors.add(s);
                }
            }
        }
        for (List<Integer> s : neighbors) {
            List<List<Integer>> schedule = grouped(s);
            if (times(schedule).cost < present) {
                kept = schedule;
                return true;
            }
        }
        return false;
    }

    /** The kept schedule as a schedule text. */
    String keptText() {
        StringBuilder out = new StringBuilder();
        for (List<Integer> b : kept) {
            out.append(out.length() > 0 ? "/" : "");
            for (int j : b) {
                out.append(j);
            }
        }
        return out.toString();
    }

    // ---- exact values

    /** What going through all complete schedules of the present jobs has shown. */
    private final class Exact {
        final int n = jobs.size();
        final int[][] v = jobs.toArray(new int[0][]);
        final int[] order = new int[8];
        final boolean[] opens = new boolean[8];
        final long[] withFirst = new long[8];
        final int[] bestKey = new int[9];
        final int[] key = new int[9];
        int[] bestOrder;
        boolean[] bestOpens;
        long keyCost = Long.MAX_VALUE;
        long best = n == 0 ? 0 : Long.MAX_VALUE;

        Exact() {
            Arrays.fill(withFirst, Long.MAX_VALUE);
            if (n > 0) {
                go(0, 0);
            }
        }

        private void go(int place, int used) {
            if (place == n) {
                look();
                return;
            }
            for (int j = 0; j < n; j++) {
                if ((used >> j & 1) == 0) {
                    order[place] = j;
                    opens[place] = true;
                    go(place + 1, used | 1 << j);
                    if (place > 0 && v[order[place - 1]][0] == v[j][0]) {
                        order[place] = j;
                        opens[place] = false;
                        go(place + 1, used | 1 << j);
                    }
                }
            }
        }

        private void look() {
            long cost = cost();
            best = Math.min(best, cost);
            withFirst[order[0]] = Math.min(withFirst[order[0]], cost);
            if (cost > keyCost || !writeKey()) {
                return;
            }
            if (cost < keyCost || Arrays.compare(key, bestKey) < 0) {
                keyCost = cost;
                System.arraycopy(key, 0, bestKey, 0, 9);
                bestOrder = order.clone();
                bestOpens = opens.clone();
            }
        }

        /** Whether the schedule is of the kind that a best schedule is chosen from. */
        private boolean writeKey() {
            Arrays.fill(key, 0);
            if (!batchwise) {
                for (int i = 0; i < n; i++) {
                    key[i] = order[i];
                    if (i > 0 && opens[i] && v[order[i]][0] == v[order[i - 1]][0]) {
                        return false;
                    }
                }
                return true;
            }
            int at = -1;
            for (int i = 0; i < n; i++) {
                if (opens[i]) {
                    at++;
                } else if (order[i] < order[i - 1]) {
                    return false;
                }
                key[at] |= 1 << order[i];
            }
            return true;
        }

        private long cost() {
            int machine = 0;
            int before = -1;
            long sum = 0;
            long greatest = Long.MIN_VALUE;
            int i = 0;
            while (i < n) {
                int e = i + 1;
                while (e < n && !opens[e]) {
                    e++;
                }
                int f = v[order[i]][0];
                int ready = v[order[i]][2];
                for (int k = i + 1; batchwise && k < e; k++) {
                    ready = Math.max(ready, v[order[k]][2]);
                }
                machine = early ? machine : Math.max(machine, ready);
                machine += before < 0 ? initial[f] : setup[before][f];
                machine = Math.max(machine, ready);
                int whole = machine;
                for (int k = i; k < e; k++) {
                    whole += v[order[k]][1];
                }
                for (int k = i; k < e; k++) {
                    int[] w = v[order[k]];
                    machine = batchwise ? whole : Math.max(machine, w[2]) + w[1];
                    long late = machine - w[3];
                    long tardy = late > 0 ? late : 0;
                    sum += objective == 0 ? (long) w[4] * machine : objective == 1 ? w[4] * tardy
                            : objective == 2 ? w[4] * tardy * tardy : tardy > 0 ? w[4] : 0;
                    greatest = Math.max(greatest, objective == 4 ? late : machine);
                }
                before = f;
                i = e;
            }
            return objective >= 4 ? greatest : sum;
        }

        List<List<Integer>> bestSchedule() {
            List<List<Integer>> out = new ArrayList<>();
            for (int i = 0; i < n; i++) {
                if (bestOpens[i]) {
                    out.add(new ArrayList<>());
                }
                out.get(out.size() - 1).add(bestOrder[i]);
            }
            return out;
        }
    }

    private Exact exact;

    private Exact exact() {
        if (exact == null) {
            exact = new Exact();
        }
        return exact;
    }

    long bestCost() {
        return exact().best;
    }

    long keepBest() {
        Exact e = exact();
        save();
        exact = e;
        kept = e.bestSchedule();
        return e.best;
    }

    long bestWithout(int job) {
        needJob(job);
        Model m = copy();
        m.jobs.remove(job);
        return m.bestCost();
    }

    long bestWithFirst(int job) {
        needJob(job);
        return exact().withFirst[job];
    }

    int latestRelease(int job) {
        needJob(job);
        Model m = copy();
        int r = m.jobs.get(job)[2];
        int limit = Math.min(r + 100, 300);
        int answer = r;
        for (int k = r + 1; k <= limit; k++) {
            m.jobs.get(job)[2] = k;
            m.exact = null;
            if (m.bestCost() == bestCost()) {
                answer = k;
            }
        }
        return answer;
    }

    long setupPrice() {
        Model m = copy();
        Arrays.fill(m.initial, 0);
        for (int f = 0; f < 4; f++) {
            for (int g = 0; g < 4; g++) {
                if (f != g) {
                    m.setup[f][g] = 0;
                }
            }
        }
        return bestCost() - m.bestCost();
    }

    long digest() {
        List<Long> values = new ArrayList<>();
        values.add((long) text.size());
        values.add((long) jobs.size());
        for (int[] j : jobs) {
            for (int x : j) {
                values.add((long) x);
            }
        }
        for (int x : initial) {
            values.add((long) x);
        }
        for (int[] row : setup) {
            for (int x : row) {
                values.add((long) x);
            }
        }
        values.add(batchwise ? 1L : 0L);
        values.add(early ? 1L : 0L);
        values.add((long) objective);
        values.add((long) kept.size());
        for (int b = 0; b < kept.size(); b++) {
            for (int what = 0; what < 6; what++) {
                values.add((long) batch(b, what));
            }
            for (int j : kept.get(b)) {
                values.add((long) j);
            }
        }
        values.add(times(kept).cost);
        values.add(bestCost());
        values.add((long) saved.size());
        long h = 2887;
        for (long x : values) {
            h = 31 * h + x;
        }
        return h;
    }
}
