/** What the project's own tests share: an answer is a number, or the name of what was thrown. */
final class Checks {
    interface Call {
        long answer();
    }

    private static int asked = 0;
    private static int wrong = 0;

    private Checks() {
    }

    static String answerOf(Call call) {
        try {
            return Long.toString(call.answer());
        } catch (RuntimeException e) {
            return "throws." + e.getClass().getSimpleName();
        }
    }

    static void due(String name, Call call, long want) {
        compare(name, answerOf(call), Long.toString(want));
    }

    static void dueIllegalArgument(String name, Call call) {
        compare(name, answerOf(call), "throws.IllegalArgumentException");
    }

    static void dueIllegalState(String name, Call call) {
        compare(name, answerOf(call), "throws.IllegalStateException");
    }

    static void dueOutOfBounds(String name, Call call) {
        compare(name, answerOf(call), "throws.IndexOutOfBoundsException");
    }

    static void compare(String name, String got, String want) {
        asked++;
        if (!got.equals(want)) {
            wrong++;
            System.out.println(name + " answered " + got + ", due is " + want);
        }
    }

    static boolean anyWrong() {
        return wrong > 0;
    }

    /** Ends the test. */
    static void close() {
        System.out.println(asked + " answers asked, " + wrong + " not as due");
        System.exit(wrong == 0 && asked > 0 ? 0 : 1);
    }

    /** Replaces the text and reads it. */
    static int parse(BatchMachine x, String text) {
        x.clearText();
        for (int i = 0; i < text.length(); i++) {
            x.append(text.charAt(i));
        }
        return x.parse();
    }

    /** The kept schedule as a schedule text. */
    static String kept(BatchMachine x) {
        StringBuilder text = new StringBuilder();
        for (int b = 0; b < x.batches(); b++) {
            if (b > 0) {
                text.append('/');
            }
            for (int i = 0; i < x.batch(b, 1); i++) {
                text.append(x.jobAt(b, i));
            }
        }
        return text.toString();
    }
}
