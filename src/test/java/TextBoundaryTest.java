/** Terms "Schedule text" and promises 10 to 12: each sentence that names a boundary case. */
public final class TextBoundaryTest {
    private static final String EIGHT_BATCHES = "0/1/2/3/4/5/6/7";

    public static void main(String[] args) {
        bytesOfAppend();
        atMostSixtyBytes();
        clearing();
        emptyText();
        textsOfSixtyBytes();
        digitsOfJobs();
        bytesThatStandNowhere();
        jobsThatHaveOccurred();
        familiesThatDiffer();
        slashes();
        textsThatEndWithASlash();
        firstOfSeveralErrors();
        textStays();
        errorChangesNothing();
        partsOfTheJobs();
        Checks.close();
    }

    /** Jobs 0, 1 and 3 of family 0, and job 2 of family 1. */
    private static BatchMachine fourJobs() {
        return Checks.machine(new int[] {0, 1, 0, 0, 1}, new int[] {0, 2, 0, 0, 1},
                new int[] {1, 3, 0, 0, 1}, new int[] {0, 4, 0, 0, 1});
    }

    /** A text without errors has as many batches as slashes, plus 1. */
    private static void dueRead(BatchMachine x, String text, int batches) {
        Checks.due("parse() of " + text, () -> Checks.parse(x, text), batches);
        Checks.dueKept("parse() of " + text, x, text);
    }

    private static void dueError(BatchMachine x, String text, int position) {
        Checks.due("parse() of " + text, () -> Checks.parse(x, text), -10 - position);
    }

    private static void bytesOfAppend() {
        Checks.sentence("the byte, 0 to 127");
        BatchMachine x = new BatchMachine();
        Checks.due("append(0)", () -> x.append(0), 1);
        Checks.due("append(127)", () -> x.append(127), 2);
        Checks.sentence("Throws `IllegalArgumentException` if value is out of range");
        for (int value : new int[] {-1, 128, Checks.LOW, Checks.HIGH}) {
            Checks.refusedArgument(x, "append(" + value + ")", () -> x.append(value));
        }
        Checks.due("append(48)", () -> x.append(48), 3);
    }

    private static void atMostSixtyBytes() {
        Checks.sentence("The text has at most 60 bytes.");
        BatchMachine x = new BatchMachine();
        for (int length = 1; length <= 60; length++) {
            Checks.due("append to " + (length - 1) + " bytes", () -> x.append(48), length);
        }
        Checks.sentence("Throws `IllegalStateException` if the text has 60 bytes");
        Checks.refusedState(x, "append to 60 bytes", () -> x.append(48));
        Checks.refusedState(x, "append to 60 bytes again", () -> x.append(0));
        Checks.due("clearText()", () -> x.clearText(), 60);
        Checks.due("append behind clearText()", () -> x.append(48), 1);
    }

    private static void clearing() {
        Checks.sentence("Returns the length that it had.");
        BatchMachine x = fourJobs();
        Checks.due("clearText() of nothing", () -> x.clearText(), 0);
        Checks.write(x, "9");
        Checks.due("clearText() of one byte", () -> x.clearText(), 1);
        Checks.due("clearText() again", () -> x.clearText(), 0);
        Checks.sentence("Empties the schedule text.");
        Checks.due("parse() behind clearText()", () -> x.parse(), 0);
    }

    private static void emptyText() {
        Checks.sentence("It can be empty (the empty schedule).");
        BatchMachine x = fourJobs();
        Checks.parse(x, "0/2");
        dueRead(x, "", 0);
        Checks.due("cost()", () -> x.cost(), 0);
        dueRead(new BatchMachine(), "", 0);
    }

    private static void textsOfSixtyBytes() {
        Checks.sentence("The syntax error position is the index of the first byte that cannot stand where it stands");
        BatchMachine x = Checks.equalJobs(8);
        // Eight jobs and eight slashes: no byte behind them can stand anywhere.
        dueError(x, EIGHT_BATCHES + "/" + "/".repeat(44), 16);
        dueError(x, EIGHT_BATCHES + "/" + "7".repeat(44), 16);
        dueError(x, EIGHT_BATCHES + "7".repeat(45), 15);
        dueError(x, "01234567" + "x".repeat(52), 8);
        dueError(x, "0".repeat(60), 1);
        dueError(x, "/".repeat(60), 0);
        Checks.due("clearText()", () -> x.clearText(), 60);
    }

    private static void digitsOfJobs() {
        Checks.sentence("the digit of a job that does not exist");
        for (int count = 0; count <= 8; count++) {
            BatchMachine x = Checks.equalJobs(count);
            dueError(x, "" + count, 0);
            dueError(x, "9", 0);
            if (count > 0) {
                dueRead(x, "" + (count - 1), 1);
                dueError(x, "0" + count, 1);
                dueError(x, "0/" + count, 2);
            }
        }
        BatchMachine y = Checks.equalJobs(8);
        dueRead(y, EIGHT_BATCHES, 8);
        dueRead(y, "7/6/5/4/3/2/1/0", 8);
        dueRead(y, "76543210", 1);
        dueError(y, "012345678", 8);
    }

    private static void bytesThatStandNowhere() {
        Checks.sentence("It consists of the digits of jobs; a slash (byte 47) stands between two batches.");
        BatchMachine x = Checks.equalJobs(8);
        for (int value : new int[] {0, 1, 7, 10, 32, 46, 56, 57, 58, 65, 127}) {
            String sign = "" + (char) value;
            Checks.due("parse() of byte " + value, () -> Checks.parse(x, sign), -10);
            Checks.due("parse() of 0 and byte " + value, () -> Checks.parse(x, "0" + sign), -11);
            Checks.due("parse() of 0/ and byte " + value, () -> Checks.parse(x, "0/" + sign + "1"), -12);
        }
        Checks.due("parse() of 0, byte 47 and 1", () -> Checks.parse(x, "0" + (char) 47 + "1"), 2);
    }

    private static void jobsThatHaveOccurred() {
        Checks.sentence("(the digit of a job that does not exist or has occurred already");
        BatchMachine x = fourJobs();
        dueError(x, "00", 1);
        dueError(x, "010", 2);
        dueError(x, "0/0", 2);
        dueError(x, "01/2/1", 5);
        dueError(x, "2/3/2", 4);
        BatchMachine y = Checks.equalJobs(8);
        dueError(y, "77", 1);
        dueError(y, "765432107", 8);
        dueError(y, EIGHT_BATCHES + "0", 15);
    }

    private static void familiesThatDiffer() {
        Checks.sentence("or whose family differs from that of the job before in the same batch");
        BatchMachine x = fourJobs();
        dueError(x, "02", 1);
        dueError(x, "20", 1);
        dueError(x, "0132", 3);
        dueError(x, "0/21", 3);
        dueRead(x, "0/2/1", 3);
        dueRead(x, "2/013", 2);
        Checks.sentence("a slash (byte 47) stands between two batches");
        dueRead(x, "0/1/3", 3);
        dueRead(x, "310/2", 2);
    }

    private static void slashes() {
        Checks.sentence("a slash at the beginning or behind a slash)");
        BatchMachine x = fourJobs();
        dueError(x, "/", 0);
        dueError(x, "/0", 0);
        dueError(x, "//", 0);
        dueError(x, "0//", 2);
        dueError(x, "0//1", 2);
        dueError(x, "0/1//2", 4);
        BatchMachine none = new BatchMachine();
        dueError(none, "/", 0);
    }

    private static void textsThatEndWithASlash() {
        Checks.sentence("or the length of the text if it ends with a slash.");
        BatchMachine x = Checks.equalJobs(8);
        dueError(x, "0/", 2);
        dueError(x, "01/2/", 5);
        dueError(x, "01234567/", 9);
        dueError(x, EIGHT_BATCHES + "/", 16);
        // Only if no byte of it is an error.
        dueError(x, "0/0/", 2);
        dueError(x, "8/", 0);
        dueError(x, "0//", 2);
    }

    private static void firstOfSeveralErrors() {
        Checks.sentence("The syntax error position is the index of the first byte that cannot stand where it stands");
        BatchMachine x = fourJobs();
        dueError(x, "0/4/0", 2);
        dueError(x, "0/0/4", 2);
        dueError(x, "02/0/", 1);
        dueError(x, "1//1/1", 2);
        dueError(x, "01/23/9", 4);
    }

    private static void textStays() {
        Checks.sentence("Keeps the schedule of the text. The text stays as it is.");
        BatchMachine x = fourJobs();
        Checks.parse(x, "01");
        x.keepRule(0);
        Checks.due("parse() again", () -> x.parse(), 1);
        Checks.dueKept("parse() again", x, "01");
        x.append(47);
        Checks.due("parse() of 01/", () -> x.parse(), -13);
        x.append(50);
        Checks.due("parse() of 01/2", () -> x.parse(), 2);
        Checks.due("clearText()", () -> x.clearText(), 4);
        Checks.dueKept("clearText()", x, "01/2");
        // The digits are read as the jobs that there are when the text is read.
        Checks.write(x, "3");
        x.removeJob(0);
        Checks.due("parse() of a job that is gone", () -> x.parse(), -10);
        x.undo();
        Checks.due("parse() of a job that is back", () -> x.parse(), 1);
    }

    private static void errorChangesNothing() {
        Checks.sentence("-10 minus the syntax error position if there is a syntax error (then nothing changes).");
        BatchMachine x = fourJobs();
        Checks.parse(x, "0/2");
        Checks.write(x, "10/2/0");
        long before = x.digest();
        Checks.due("parse() of 10/2/0", () -> x.parse(), -15);
        Checks.due("digest()", () -> x.digest(), before);
        Checks.dueKept("parse() of 10/2/0", x, "0/2");
        Checks.sentence("Undoable, if there is no syntax error.");
        BatchMachine y = new BatchMachine();
        y.append(47);
        y.parse();
        Checks.refusedState(y, "undo() behind a syntax error", () -> y.undo());
        y.clearText();
        y.parse();
        Checks.due("undo() behind the empty text", () -> y.undo(), 0);
    }

    private static void partsOfTheJobs() {
        Checks.sentence("No job occurs twice; a schedule can leave out jobs, and can be empty.");
        BatchMachine x = fourJobs();
        dueRead(x, "3", 1);
        dueRead(x, "2/3", 2);
        Checks.duePlanned("left out", x, 0, -1, -1, -1, -1);
        Checks.duePlanned("left out", x, 1, -1, -1, -1, -1);
        dueRead(x, "", 0);
        Checks.duePlanned("left out", x, 3, -1, -1, -1, -1);
    }
}
