import java.io.IOException;
import java.lang.reflect.Method;
import java.lang.reflect.Modifier;
import java.nio.file.Files;
import java.nio.file.Path;
import java.util.List;
import java.util.Set;
import java.util.TreeSet;
import java.util.regex.Matcher;
import java.util.regex.Pattern;
import java.util.stream.Collectors;
import java.util.stream.Stream;

/** What README.md says is so: its example's answers, its parts of a text, its calls, refusals, tests and classes. */
public final class ReadmeTest {
    private final Check check = new Check();
    private final String page;

    private ReadmeTest() throws IOException {
        page = Files.readString(Path.of("README.md"));
    }

    private static Matcher find(String pattern, String text) {
        return Pattern.compile(pattern, Pattern.MULTILINE).matcher(text);
    }

    /** The first groups of all that fits, sorted; a second group is joined to it. */
    private static Set<String> all(String pattern, String text) {
        Set<String> found = new TreeSet<>();
        Matcher m = find(pattern, text);
        while (m.find()) {
            found.add(m.groupCount() > 1 ? m.group(1) + " " + m.group(2) : m.group(1));
        }
        return found;
    }

    private String chapter(String title) {
        int from = page.indexOf(title + "\n");
        check.that("there is " + title, from >= 0);
        int end = page.indexOf("\n#", from + title.length());
        return page.substring(Math.max(from, 0), end < 0 ? page.length() : end);
    }

    private void example() {
        String chapter = chapter("## Use");
        Matcher text = find("String text = \"([^\"]*)\";", chapter);
        check.that("a text is told", text.find());
        SandTreaty x = new SandTreaty();
        Check.feed(x, text.group(1));
        int answers = 0;
        for (String line : chapter.split("\n")) {
            Matcher call = find("^treaty\\.(\\w+)\\(([^)]*)\\); +// (-?\\d+)", line);
            if (call.find()) {
                String words = call.group(1) + " " + call.group(2).replace("SandTreaty.NONE", "-1").replace(",", "");
                check.due(line.trim(), Script.call(x, words.trim()), Integer.parseInt(call.group(3)));
                answers++;
            }
        }
        check.due("each call but feed tells its answer", find("(?m)^treaty\\.", chapter).results().count(), answers);
    }

    private void parts() {
        List<String> parts = find("^\\| `([twck][0-9, ]+;)` \\|", chapter("### The text")).results()
            .map(m -> m.group(1)).collect(Collectors.toList());
        check.same("each word has a part", parts.stream().map(p -> p.substring(0, 1)).collect(Collectors.joining()), "twck");
        SandTreaty x = new SandTreaty();
        Check.feed(x, String.join(" ", parts));
        check.due("all parts", x.strand(), 1);
        check.same("tell", Script.ground(x), "3 5 1 1 2 -1 12 8;c5");
    }

    private void calls() {
        Set<String> told = new TreeSet<>();
        Matcher m = find("^\\| `(\\w+)\\(([^)]*)\\)` \\|", chapter("### The calls"));
        while (m.find()) {
            told.add(m.group(1) + " " + (m.group(2).isEmpty() ? 0 : m.group(2).split(", ").length));
        }
        Set<String> due = new TreeSet<>();
        for (Method method : SandTreaty.class.getDeclaredMethods()) {
            if (Modifier.isPublic(method.getModifiers())) {
                due.add(method.getName() + " " + method.getParameterCount());
            }
        }
        check.same("calls", told.toString(), due.toString());
    }

    private void refusals() {
        check.same("refusals", all("^\\| `([A-Z]+)` \\((-\\d+)\\)", chapter("### Refusals")).toString(),
            new TreeSet<>(Set.of("UNKNOWN " + SandTreaty.UNKNOWN, "OUTSIDE " + SandTreaty.OUTSIDE, "NOT " + SandTreaty.NOT,
                "FULL " + SandTreaty.FULL)).toString());
    }

    private void tests() throws IOException {
        Set<String> due;
        try (Stream<Path> files = Files.list(Path.of("src/test/java"))) {
            due = files.map(file -> file.getFileName().toString().replace(".java", ""))
                .collect(Collectors.toCollection(TreeSet::new));
        }
        check.same("tests", all("`([A-Z]\\w+)`", chapter("## Tests")).toString(), due.toString());
        check.that(".ci/run can be run", Files.isExecutable(Path.of(".ci/run")));
    }

    private void classes() {
        Set<String> due = new TreeSet<>();
        for (Class<?> type : SandTreaty.class.getDeclaredClasses()) {
            due.add(type.getSimpleName());
        }
        check.same("classes", all("^\\| `(\\w+)` \\|", chapter("## Inside")).toString(), due.toString());
    }

    public static void main(String[] args) throws IOException {
        ReadmeTest test = new ReadmeTest();
        test.example();
        test.parts();
        test.calls();
        test.refusals();
        test.tests();
        test.classes();
        test.check.end("ReadmeTest");
    }
}
