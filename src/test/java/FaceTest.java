import java.lang.reflect.Constructor;
import java.lang.reflect.Field;
import java.lang.reflect.Method;
import java.lang.reflect.Modifier;
import java.nio.charset.StandardCharsets;
import java.nio.file.Files;
import java.nio.file.Path;
import java.util.Arrays;
import java.util.HashSet;
import java.util.Set;
import java.util.TreeSet;
import java.util.regex.Matcher;
import java.util.regex.Pattern;

/** The public face of the document, and those rules of LANGUAGE.md that can be looked up in the class and its file. */
public final class FaceTest {
    private static final String[] METHODS = {
        "feed int", "strand", "fault", "told int", "clause int int", "cell int int", "write int int", "rub int", "storm",
        "hour int", "drift int", "undo int", "lasts int int", "washed int", "plan int int int",
        "bargain int int int int", "crossing int", "leaners int", "storms int int", "see int int boolean", "agreed int",
        "lookAt int", "note int int", "judge", "tear", "seed int", "keep int", "goBack int"};
    private static final String[][] SECTIONS = {
        {"the strand", "feed", "strand", "fault", "told", "clause", "cell"},
        {"deeds", "write", "rub", "storm", "hour", "drift", "undo"},
        {"tried", "lasts", "washed", "plan", "bargain", "crossing", "leaners", "storms"},
        {"what was seen", "see", "agreed", "lookAt", "note", "judge", "tear"},
        {"images", "seed", "keep", "goBack"}};
    /** What rule 4 lists and the class uses; another one must be looked up there first. */
    private static final Set<String> LIBRARY = Set.of("System.arraycopy", "Math.max", "Math.min", "Integer.bitCount",
        "Integer.numberOfTrailingZeros");
    private static final String[] BARRED = {
        "\\bthrow\\b", "\\bthrows\\b", "\\btry\\b", "\\bcatch\\b", "\\bsynchronized\\b", "\\bassert\\b", "->", "::",
        "\\bimport\\b", "\\bpackage\\b", "\\bvar\\b", "\\bprotected\\b", "Exact\\b", "\\bnative\\b", "\\bvolatile\\b",
        "\\bdouble\\b", "\\bfloat\\b", "\\bObject\\b", "Random", "currentTime", "nanoTime", "System\\.(?!arraycopy)"};
    private static final int MOST_LINES = 60;
    private static final int MOST_PARAMETERS = 7;
    private static final int MOST_FIELDS = 20;
    private static final int MOST_CLASSES = 12;

    private final Check check = new Check();
    private final Set<String> publicNames = new HashSet<>();

    private void face() throws ReflectiveOperationException {
        check.that("public and final", Modifier.isFinal(SandTreaty.class.getModifiers())
            && Modifier.isPublic(SandTreaty.class.getModifiers()));
        Set<String> methods = new TreeSet<>();
        for (Method m : SandTreaty.class.getDeclaredMethods()) {
            if (Modifier.isPrivate(m.getModifiers())) {
                continue;
            }
            StringBuilder s = new StringBuilder(m.getName());
            for (Class<?> type : m.getParameterTypes()) {
                s.append(' ').append(type.getName());
            }
            methods.add(s.toString());
            publicNames.add(m.getName());
            check.that(s + " answers an int", m.getReturnType() == int.class && m.getModifiers() == Modifier.PUBLIC);
        }
        check.that("methods " + methods, methods.equals(new TreeSet<>(Arrays.asList(METHODS))));
        Constructor<?>[] made = SandTreaty.class.getDeclaredConstructors();
        check.that("one constructor", made.length == 1 && made[0].getParameterCount() == 0
            && made[0].getModifiers() == Modifier.PUBLIC);
        Set<String> constants = new TreeSet<>();
        for (Field f : SandTreaty.class.getDeclaredFields()) {
            if (!Modifier.isPrivate(f.getModifiers())) {
                constants.add(f.getName() + " " + f.getInt(null));
            }
        }
        check.that("constants " + constants, constants.equals(new TreeSet<>(Arrays.asList("NONE -1",
            "UNKNOWN -1000000001", "OUTSIDE -1000000002", "NOT -1000000003", "FULL -1000000004"))));
    }

    private void shape(Class<?> type) {
        int fields = 0;
        for (Field f : type.getDeclaredFields()) {
            boolean isStatic = Modifier.isStatic(f.getModifiers());
            check.that(f + " is final, if static", !isStatic || Modifier.isFinal(f.getModifiers()));
            fields += isStatic ? 0 : 1;
        }
        check.that(type + " fields " + fields, fields <= MOST_FIELDS);
        for (Method m : type.getDeclaredMethods()) {
            check.that(m + " parameters", m.getParameterCount() <= MOST_PARAMETERS);
            check.that(m + " bears its own name", type == SandTreaty.class || !publicNames.contains(m.getName()));
        }
        for (Class<?> inside : type.getDeclaredClasses()) {
            check.that(inside + " is static", Modifier.isStatic(inside.getModifiers())
                && !Modifier.isPublic(inside.getModifiers()));
            shape(inside);
        }
    }

    private void source() throws java.io.IOException {
        String text = Files.readString(Path.of("src/main/java/SandTreaty.java"), StandardCharsets.UTF_8);
        check.that("plain signs alone", text.chars().allMatch(c -> c == '\n' || c >= 32 && c < 127));
        String code = text.replaceAll("(?s)/\\*.*?\\*/", "").replaceAll("//[^\n]*", "");
        for (String barred : BARRED) {
            Matcher m = Pattern.compile(barred).matcher(code);
            check.that("no " + barred, !m.find());
        }
        sections(text);
        library(code);
        made(code.split("\n"));
        check.that("classes", SandTreaty.class.getDeclaredClasses().length + 1 <= MOST_CLASSES);
        methodLengths(text.split("\n"));
    }

    /** Ahead of the calls the interface says "---- the strand" and so on. */
    private void sections(String text) {
        StringBuilder got = new StringBuilder();
        Matcher m = Pattern.compile("(?m)^ {4}(?:// ---- (.*)|public int (\\w+)\\(.*)$").matcher(text);
        while (m.find()) {
            got.append(m.group(1) == null ? " " + m.group(2) : "\n" + m.group(1) + ":");
        }
        StringBuilder due = new StringBuilder();
        for (String[] section : SECTIONS) {
            due.append('\n').append(section[0]).append(':');
            for (int i = 1; i < section.length; i++) {
                due.append(' ').append(section[i]);
            }
        }
        check.same("the calls by sections", got.toString(), due.toString());
    }

    private void library(String code) {
        Set<String> inside = new HashSet<>();
        for (Class<?> type : SandTreaty.class.getDeclaredClasses()) {
            inside.add(type.getSimpleName());
        }
        Matcher m = Pattern.compile("\\b([A-Z][A-Za-z]*)\\.(\\w+)\\(").matcher(code);
        while (m.find()) {
            String called = m.group(1) + "." + m.group(2);
            check.that("the library has " + called, LIBRARY.contains(called) || inside.contains(m.group(1)));
        }
        check.that("no texts, no lists", !Pattern.compile("\\b(String|StringBuilder|List|ArrayList|Arrays|Iterator)\\b|\"")
            .matcher(code).find());
    }

    /** All rows and objects are made in constructors: a call that made some would use up the room of a run. */
    private void made(String[] lines) {
        String constructor = "";
        for (String line : lines) {
            Matcher opens = Pattern.compile("^( +)(?:public )?[A-Z]\\w*\\([^)]*\\) \\{$").matcher(line);
            if (opens.find()) {
                constructor = opens.group(1);
            } else if (line.equals(constructor + "}")) {
                constructor = "";
            }
            boolean isField = line.matches("^ {8}(private )?(static )?final [^(]* = new .*;$");
            check.that("made in a constructor: " + line.trim(),
                !Pattern.compile("\\bnew\\b").matcher(line).find() || isField || !constructor.isEmpty());
        }
    }

    /** A method opens with a line that ends in ") {" at the depth of members and closes at the same depth. */
    private void methodLengths(String[] lines) {
        int from = -1;
        String indent = "";
        for (int i = 0; i < lines.length; i++) {
            Matcher opens = Pattern.compile("^( {4}| {8})[A-Za-z].*\\) \\{$").matcher(lines[i]);
            if (from < 0 && opens.find() && !lines[i].trim().startsWith("for") && !lines[i].trim().startsWith("if")) {
                from = i;
                indent = opens.group(1);
            } else if (from >= 0 && lines[i].equals(indent + "}")) {
                check.that("line " + (from + 1) + " length", i - from < MOST_LINES);
                from = -1;
            }
        }
    }

    public static void main(String[] args) throws Exception {
        FaceTest test = new FaceTest();
        test.face();
        test.shape(SandTreaty.class);
        test.source();
        test.check.end("FaceTest");
    }
}
