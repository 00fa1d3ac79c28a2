/** What the project's own tests share: an answer is a number, or the name of what was thrown. */
final class Checks {
    interface Call {
        long answer();
    }

    static final int LOW = Integer.MIN_VALUE;
    static final int HIGH = Integer.MAX_VALUE;

    private static int asked = 0;
    private static int wrong = 0;
    private static String sentence = "";

    private Checks() {
    }

    /** The sentence of the document that the answers asked from here on follow from. */
    static void sentence(String words) {
        sentence = "\"" + words + "\": ";
    }

    static String answerOf(Call call) {
        try {
            return Long.toString(call.answer());
        } catch (RuntimeException e) {
            return "throws." + e.getClass().getSimpleName();
        }
    }

    static void due(String name, Call call, long want) {
        compare(name, answerOf(call), Long.toString(want));
    }

    static void dueTrue(String name, boolean holds) {
        compare(name, Boolean.toString(holds), "true");
    }

    static void dueIllegalArgument(String name, Call call) {
        compare(name, answerOf(call), "throws.IllegalArgumentException");
    }

    static void dueIllegalState(String name, Call call) {
        compare(name, answerOf(call), "throws.IllegalStateException");
    }

    static void dueOutOfBounds(String name, Call call) {
        compare(name, answerOf(call), "throws.IndexOutOfBoundsException");
    }

    /** A call that is refused by an IllegalArgumentException and changes nothing. */
    static void refusedArgument(BatchMachine x, String name, Call call) {
        refused(x, name, call, "throws.IllegalArgumentException");
    }

    /** A call that is refused by an IllegalStateException and changes nothing. */
    static void refusedState(BatchMachine x, String name, Call call) {
        refused(x, name, call, "throws.IllegalStateException");
    }

    /** A call that is refused by an IndexOutOfBoundsException and changes nothing. */
    static void refusedIndex(BatchMachine x, String name, Call call) {
        refused(x, name, call, "throws.IndexOutOfBoundsException");
    }

    private static void refused(BatchMachine x, String name, Call call, String want) {
        long before = x.digest();
        compare(name, answerOf(call), want);
        due("digest() after the refused " + name, () -> x.digest(), before);
    }

    static void compare(String name, String got, String want) {
        asked++;
        if (!got.equals(want)) {
            wrong++;
            System.out.println(sentence + name + " answered " + got + ", due is " + want);
        }
    }

    static boolean anyWrong() {
        return wrong > 0;
    }

    /** Ends the test. */
    static void close() {
        System.out.println(asked + " answers asked, " + wrong + " not as due");
        System.exit(wrong == 0 && asked > 0 ? 0 : 1);
    }

    /** A machine with these jobs; each row has family, time, release, due date and weight. */
    static BatchMachine machine(int[]... jobs) {
        BatchMachine x = new BatchMachine();
        for (int[] v : jobs) {
            x.addJob(v[0], v[1], v[2], v[3], v[4]);
        }
        return x;
    }

    /** A machine with so many jobs of family 0, time 1, release and due date 0 and weight 1. */
    static BatchMachine equalJobs(int count) {
        BatchMachine x = new BatchMachine();
        for (int i = 0; i < count; i++) {
            x.addJob(0, 1, 0, 0, 1);
        }
        return x;
    }

    /** Sets all setup times between two families, also from one to itself, but no initial one. */
    static void setAllSetups(BatchMachine x, int time) {
        for (int from = 0; from < 4; from++) {
            for (int to = 0; to < 4; to++) {
                x.setSetup(from, to, time);
            }
        }
    }

    /** Replaces the text. */
    static void write(BatchMachine x, String text) {
        x.clearText();
        for (int i = 0; i < text.length(); i++) {
            x.append(text.charAt(i));
        }
    }

    /** Replaces the text and reads it. */
    static int parse(BatchMachine x, String text) {
        write(x, text);
        return x.parse();
    }

    /** The kept schedule as a schedule text. */
    static String kept(BatchMachine x) {
        StringBuilder text = new StringBuilder();
        for (int b = 0; b < x.batches(); b++) {
            if (b > 0) {
                text.append('/');
            }
            for (int i = 0; i < x.batch(b, 1); i++) {
                text.append(x.jobAt(b, i));
            }
        }
        return text.toString();
    }

    static void dueKept(String name, BatchMachine x, String want) {
        compare(name + " keeps", kept(x), want);
    }

    static void dueBatch(String name, BatchMachine x, int batch, int... want) {
        for (int what = 0; what < want.length; what++) {
            int w = what;
            due(name + " batch(" + batch + ", " + w + ")", () -> x.batch(batch, w), want[w]);
        }
    }

    static void duePlanned(String name, BatchMachine x, int job, int... want) {
        for (int what = 0; what < want.length; what++) {
            int w = what;
            due(name + " planned(" + job + ", " + w + ")", () -> x.planned(job, w), want[w]);
        }
    }

    static void dueTotals(String name, BatchMachine x, int setups, int work, int idle) {
        int[] want = {setups, work, idle};
        for (int what = 0; what < 3; what++) {
            int w = what;
            due(name + " total(" + w + ")", () -> x.total(w), want[w]);
        }
    }
}
