import java.io.File;
import java.io.IOException;
import java.lang.reflect.InvocationTargetException;
import java.lang.reflect.Method;
import java.lang.reflect.Modifier;
import java.nio.charset.StandardCharsets;
import java.nio.file.Files;
import java.nio.file.Path;
import java.util.Arrays;
import java.util.regex.Matcher;
import java.util.regex.Pattern;

/**
 * What can be read out of the document itself: the public face word by word, the lines ahead of
 * its calls, the examples, and that each of its sentences is quoted by a test that asks for it.
 * And that the calls of README.md answer what it says behind them.
 */
public final class DocumentTest {
    private static final String NEXT_CALL = "([a-z]\\w*)\\(([^)]*)\\) = (throws \\w+|-?\\d+)";

    private final String document;
    private final String program;

    private DocumentTest() throws IOException {
        document = inOneLine(read("../shared/DOC.md"));
        program = inOneLine(read("src/main/java/BatchMachine.java"));
    }

    public static void main(String[] args) throws Exception {
        DocumentTest test = new DocumentTest();
        test.face();
        test.linesAheadOfTheCalls();
        test.examples();
        test.sentences();
        readme();
        Checks.close();
    }

    private static String read(String path) throws IOException {
        return Files.readString(Path.of(path), StandardCharsets.UTF_8);
    }

    private static String inOneLine(String text) {
        return text.replaceAll("\\s+", " ");
    }

    private static String between(String text, String begin, String end) {
        int from = text.indexOf(begin);
        int to = text.indexOf(end, from + begin.length());
        Checks.dueTrue("there is text between " + begin + " and " + end, from >= 0 && to >= 0);
        return from < 0 || to < 0 ? "" : text.substring(from + begin.length(), to);
    }

    /** Each line of the face stands in the program, in the same order and with the same words. */
    private void face() {
        String[] members = between(document, "public final class BatchMachine {", "}").split(";");
        int place = program.indexOf("public final class BatchMachine {");
        Checks.dueTrue("public final class BatchMachine", place >= 0);
        int count = 1;
        for (String member : members) {
            String line = member.trim();
            if (!line.isEmpty()) {
                count++;
                int next = program.indexOf(line + (line.contains("(") ? " {" : ";"), Math.max(0, place));
                Checks.dueTrue(line + " stands in its place", next > place);
                place = Math.max(place, next);
            }
        }
        Checks.due("members of the face, and the class", DocumentTest::publicFaces, count);
        int words = program.split("\\bpublic ", -1).length - 1;
        Checks.due("public members in the text, and the class", () -> words, count);
    }

    private static long publicFaces() {
        long constants = Arrays.stream(BatchMachine.class.getDeclaredFields())
                .filter(f -> Modifier.isPublic(f.getModifiers())).count();
        return 1 + constants + publicMethods() + BatchMachine.class.getConstructors().length;
    }

    private static long publicMethods() {
        return Arrays.stream(BatchMachine.class.getDeclaredMethods())
                .filter(m -> Modifier.isPublic(m.getModifiers())).count();
    }

    /** "Ahead of the calls .. the interface says: ---- ..": the line stands right ahead of the first of them. */
    private void linesAheadOfTheCalls() throws IOException {
        String text = read("src/main/java/BatchMachine.java");
        Matcher line = Pattern.compile("Ahead of the calls ([`\\w, ]+) the interface says: ---- ([\\w ]+)\\.")
                .matcher(document);
        int calls = 0;
        while (line.find()) {
            String[] names = line.group(1).replace("`", "").split(", ");
            int place = text.indexOf("// ---- " + line.group(2) + "\n");
            int end = text.indexOf("// ----", place + 1);
            Checks.dueTrue("// ---- " + line.group(2), place >= 0 && end > place);
            Matcher method = Pattern.compile("public \\w+ (\\w+)\\(").matcher(text);
            method.region(Math.max(0, place), Math.max(0, end));
            for (String name : names) {
                calls++;
                Checks.compare("behind // ---- " + line.group(2), method.find() ? method.group(1) : "none", name);
            }
            Checks.dueTrue("no more calls behind // ---- " + line.group(2), !method.find());
        }
        int listed = calls;
        Checks.due("calls with a line ahead of them", () -> listed, publicMethods());
    }

    private void examples() throws Exception {
        String all = between(document, "Examples: Each of them begins with a new object;", "The constants:");
        String[] parts = all.split(" (?=[1-9]\\. [A-Z])");
        Checks.due("examples", () -> parts.length - 1, 5);
        for (int i = 1; i < parts.length; i++) {
            int calls = example(i, parts[i]);
            String rest = parts[i].substring(parts[i].indexOf(": ") + 2).replaceAll(NEXT_CALL, "");
            Checks.compare("example " + i + ", what is no call", rest.replaceAll("[;. ]", ""), "");
            Checks.dueTrue("example " + i + " has calls", calls > 0);
        }
    }

    private static int example(int number, String text) throws Exception {
        BatchMachine x = new BatchMachine();
        int calls = 0;
        Matcher call = Pattern.compile(NEXT_CALL).matcher(text);
        while (call.find()) {
            calls++;
            Checks.compare("example " + number + ": " + call.group(), answer(x, call.group(1), call.group(2)),
                    call.group(3).replace("throws ", "throws."));
        }
        return calls;
    }

    private static String answer(BatchMachine x, String name, String values) throws Exception {
        for (Method method : BatchMachine.class.getMethods()) {
            if (method.getName().equals(name)) {
                try {
                    return String.valueOf(method.invoke(x, arguments(method, values)));
                } catch (InvocationTargetException e) {
                    return "throws." + e.getCause().getClass().getSimpleName();
                }
            }
        }
        return "no such call";
    }

    private static Object[] arguments(Method method, String values) {
        String[] texts = values.isEmpty() ? new String[0] : values.split(", ");
        Object[] arguments = new Object[texts.length];
        for (int i = 0; i < texts.length; i++) {
            boolean truth = method.getParameterTypes()[i] == boolean.class;
            arguments[i] = truth ? (Object) Boolean.valueOf(texts[i]) : (Object) number(texts[i]);
        }
        return arguments;
    }

    private static Integer number(String text) {
        if (text.equals("BatchMachine.NONE")) {
            return BatchMachine.NONE;
        }
        return text.startsWith("'") ? Integer.valueOf(text.charAt(1)) : Integer.valueOf(text);
    }

    /** One object for all of its lines; an answer stands first in the comment, or is not told. */
    private static void readme() throws Exception {
        BatchMachine x = new BatchMachine();
        Matcher call = Pattern.compile("(?m)^ {4}x\\.(\\w+)\\(([^)]*)\\);(?: +// (-?\\d+):)?").matcher(read("README.md"));
        int told = 0;
        while (call.find()) {
            String got = answer(x, call.group(1), call.group(2));
            told += call.group(3) == null ? 0 : 1;
            Checks.compare("README.md: " + call.group(), got, call.group(3) == null ? got : call.group(3));
        }
        Checks.dueTrue("README.md tells answers", told > 5);
    }

    /** Marks what the tests quote of the terms and promises; nothing may be left but heads and names. */
    private void sentences() throws IOException {
        String text = withoutHeads();
        boolean[] quoted = new boolean[text.length()];
        File[] tests = new File("src/test/java").listFiles();
        Checks.dueTrue("there are tests", tests != null);
        Pattern quote = Pattern.compile("Checks\\.sentence\\(((?:\\s*\\+?\\s*\"(?:[^\"\\\\]|\\\\.)*\")+)\\)");
        for (File test : tests == null ? new File[0] : tests) {
            Matcher found = quote.matcher(read(test.getPath()));
            while (found.find()) {
                mark(text, quoted, words(found.group(1)));
            }
        }
        StringBuilder left = new StringBuilder();
        for (int i = 0; i < text.length(); i++) {
            left.append(quoted[i] ? '\n' : text.charAt(i));
        }
        String pieces = left.toString().replaceAll("[ ,;:.-]*\n[ ,;:.-]*", "\n").replaceAll("\n+", " .. ");
        Checks.compare("what no test quotes", pieces.replaceAll("^ \\.\\. $", ""), "");
    }

    /** The terms and promises without what face(), linesAheadOfTheCalls() and examples() ask for. */
    private String withoutHeads() {
        return between(document, "## Terms", "## Not promised")
                .replaceAll("Examples: Each of them .*? The constants:", "")
                .replaceAll("Ahead of the calls .*? the interface says: ---- [\\w ]+\\.", "")
                .replaceAll("## Promise \\d+: (A new object|\\w+) `[^`]*`:", "")
                .replaceAll("(Jobs|Setups|Schedules|Objectives|Best schedules|Rules|The kept schedule|Improvement"
                        + "|Schedule text|Undo|Exceptions)\\. (?=[A-Z])", "")
                .replaceAll("- `(job|what|value|steps|batch)`:", "")
                .replaceAll(" +", " ");
    }

    private static String words(String literals) {
        StringBuilder text = new StringBuilder();
        Matcher literal = Pattern.compile("\"((?:[^\"\\\\]|\\\\.)*)\"").matcher(literals);
        while (literal.find()) {
            text.append(literal.group(1).replace("\\\"", "\""));
        }
        return text.toString();
    }

    private void mark(String text, boolean[] quoted, String sentence) {
        Checks.dueTrue("the document says: " + sentence, document.contains(sentence));
        String bare = sentence.replaceAll("- `(job|what|value|steps|batch)`:", "").replaceAll(" +", " ").trim();
        for (int i = text.indexOf(bare); i >= 0; i = text.indexOf(bare, i + 1)) {
            Arrays.fill(quoted, i, i + bare.length(), true);
        }
    }
}
