import java.lang.reflect.Constructor;
import java.lang.reflect.Field;
import java.lang.reflect.Method;
import java.lang.reflect.Modifier;
import java.nio.charset.StandardCharsets;
import java.nio.file.Files;
import java.nio.file.Path;
import java.util.Arrays;
import java.util.TreeSet;
import java.util.regex.Matcher;
import java.util.regex.Pattern;

/** The face of the document, and what can be seen of LANGUAGE.md in the class and its text. */
public final class LanguageTest {
    private static final String[] FACE = {
        "int addJob(int,int,int,int,int)", "int removeJob(int)", "int setJob(int,int,int)",
        "int job(int,int)", "int jobs()", "int setSetup(int,int,int)",
        "int setMode(boolean,boolean)", "int setObjective(int)", "int append(int)",
        "int clearText()", "int parse()", "long keepRule(int)", "long keepBest()",
        "int improve(int)", "int batches()", "int batch(int,int)", "int jobAt(int,int)",
        "int planned(int,int)", "long cost()", "int total(int)", "long bestCost()",
        "long ruleCost(int)", "long bestWithout(int)", "long bestWithFirst(int)",
        "int latestRelease(int)", "long setupPrice()", "int undo()", "long digest()"};
    private static final String[] OUTSIDE = {
        "->", "::", "\\bfinally\\b", "\\bsynchronized\\b", "\\bassert\\b", "\\bcatch\\b",
        "\\bExact\\b", "\\w+Exact\\(", "\\bpackage\\b", "\\bprotected\\b", "\\bnative\\b",
        "\\bfloat\\b|\\bdouble\\b", "\\bMath\\.(random|sqrt|pow)", "\\bThread\\b", "\\bSystem\\.(?!arraycopy)",
        "\\bhashCode\\b", "\\btoString\\b", "\\bvar\\b", "\\brecord\\b", "static \\{"};

    public static void main(String[] args) throws Exception {
        theFace();
        theText();
        Checks.close();
    }

    private static void theFace() throws Exception {
        Class<?> c = BatchMachine.class;
        TreeSet<String> publicMethods = new TreeSet<>();
        TreeSet<String> names = new TreeSet<>();
        for (Method m : c.getDeclaredMethods()) {
            if (Modifier.isPublic(m.getModifiers())) {
                publicMethods.add(signature(m));
                names.add(m.getName());
            } else {
                Checks.dueTrue(m + " is private", Modifier.isPrivate(m.getModifiers()));
            }
        }
        Checks.compare("public methods", publicMethods.toString(),
                new TreeSet<>(Arrays.asList(FACE)).toString());
        for (Field f : c.getDeclaredFields()) {
            boolean constant = f.getName().equals("NONE") && Modifier.isPublic(f.getModifiers())
                    && Modifier.isStatic(f.getModifiers()) && Modifier.isFinal(f.getModifiers());
            Checks.dueTrue(f + " is private", constant || Modifier.isPrivate(f.getModifiers()));
        }
        Constructor<?>[] constructors = c.getDeclaredConstructors();
        Checks.dueTrue("one public constructor", constructors.length == 1
                && Modifier.isPublic(constructors[0].getModifiers())
                && constructors[0].getParameterCount() == 0);
        Checks.dueTrue("public and final", Modifier.isPublic(c.getModifiers())
                && Modifier.isFinal(c.getModifiers()));
        fieldsOf(c);
        classesInside(c, names);
    }

    private static void fieldsOf(Class<?> c) {
        int fields = 0;
        for (Field f : c.getDeclaredFields()) {
            if (Modifier.isStatic(f.getModifiers())) {
                boolean constant = f.getType().isPrimitive() || f.getType() == int[].class;
                Checks.dueTrue(f + " is a constant", constant && Modifier.isFinal(f.getModifiers()));
            } else {
                fields++;
            }
        }
        Checks.dueTrue(c + " has at most twenty fields", fields <= 20);
    }

    private static void classesInside(Class<?> c, TreeSet<String> names) {
        Checks.dueTrue("at most twelve classes", c.getDeclaredClasses().length < 12);
        for (Class<?> inside : c.getDeclaredClasses()) {
            fieldsOf(inside);
            Checks.dueTrue(inside + " is static", Modifier.isStatic(inside.getModifiers()));
            Checks.dueTrue(inside + " is not public", !Modifier.isPublic(inside.getModifiers()));
            for (Method m : inside.getDeclaredMethods()) {
                Checks.dueTrue(m + " has a name of its own", !names.contains(m.getName()));
                Checks.dueTrue(m + " has at most seven parameters", m.getParameterCount() <= 7);
            }
        }
        for (Method m : c.getDeclaredMethods()) {
            Checks.dueTrue(m + " has a name of its own",
                    Modifier.isPublic(m.getModifiers()) || !names.contains(m.getName()));
            Checks.dueTrue(m + " has at most seven parameters", m.getParameterCount() <= 7);
        }
    }

    private static String signature(Method m) {
        StringBuilder text = new StringBuilder();
        text.append(m.getReturnType().getSimpleName()).append(' ').append(m.getName()).append('(');
        for (int i = 0; i < m.getParameterCount(); i++) {
            text.append(i > 0 ? "," : "").append(m.getParameterTypes()[i].getSimpleName());
        }
        return text.append(')').toString();
    }

    private static void theText() throws Exception {
        String text = Files.readString(Path.of("src/main/java/BatchMachine.java"), StandardCharsets.UTF_8);
        for (int i = 0; i < text.length(); i++) {
            if (text.charAt(i) > 126) {
                Checks.dueTrue("sign " + i + " of the text is plain", false);
            }
        }
        String code = text.replaceAll("(?s)/\\*.*?\\*/", " ").replaceAll("//[^\n]*", " ")
                .replaceAll("\"[^\"\n]*\"", "\"\"");
        for (String pattern : OUTSIDE) {
            Matcher found = Pattern.compile(pattern).matcher(code);
            Checks.dueTrue("no " + pattern + " in the text", !found.find());
        }
        Matcher imports = Pattern.compile("\\bimport ([^;]*);").matcher(code);
        while (imports.find()) {
            Checks.dueTrue("import of " + imports.group(1),
                    imports.group(1).matches("java\\.util\\.(Arrays|ArrayList|List|NoSuchElementException)"));
        }
        Matcher thrown = Pattern.compile("\\bthrow\\b([^;]*);").matcher(code);
        while (thrown.find()) {
            Checks.dueTrue("throw" + thrown.group(1), thrown.group(1).matches(
                    " new (IllegalState|IllegalArgument|IndexOutOfBounds)Exception\\(\"\"\\)"));
        }
        methodLengths(text);
    }

    private static void methodLengths(String text) {
        String[] lines = text.split("\n");
        int begin = -1;
        for (int i = 0; i < lines.length; i++) {
            if (lines[i].matches(" {4}(public|private) [^;=]*\\(.*") || lines[i].matches(" {8}[a-z][^;=]*\\(.*\\) \\{")) {
                begin = i;
            }
            if (lines[i].matches(" {4}( {4})?\\}") && begin >= 0) {
                Checks.dueTrue("the method at line " + (begin + 1) + " is short", i - begin <= 60);
                begin = -1;
            }
        }
    }
}
