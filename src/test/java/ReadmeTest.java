import java.io.IOException;
import java.lang.reflect.Field;
import java.lang.reflect.Method;
import java.lang.reflect.Modifier;
import java.nio.file.Files;
import java.nio.file.Path;
import java.util.ArrayList;
import java.util.List;
import java.util.Set;
import java.util.TreeSet;
import java.util.regex.Matcher;
import java.util.regex.Pattern;
import java.util.stream.Collectors;
import java.util.stream.Stream;

/** README.md is true of what stands: its program, its calls, its exceptions, its limits, and its tests. */
public final class ReadmeTest {
    private static final Path TESTS = Path.of("src/test/java");
    private static final Pattern ROW_OF_CALL = Pattern.compile("\\| `(\\w+\\([^`]*\\))` \\| .*\\|");
    private static final Pattern ROW_OF_TEST = Pattern.compile("\\| `(\\w+Test)` \\| .*\\|");
    private static final Pattern ROW_OF_EXCEPTION = Pattern.compile("\\| `(\\w+Exception)` \\| .*\\|");
    private static final Pattern IN_THE_FACE = Pattern.compile("    public \\w+ (\\w+)\\(([^)]*)\\).*;");
    private static final Pattern FILE_WITHOUT_END = Pattern.compile("`([A-Z][a-z]\\w*)`");
    private static final Pattern CONSTANT = Pattern.compile("`([A-Z]{2}[A-Z_]+)`");
    private static final Pattern LIMITS = Pattern.compile("nodes 0 to (\\d+), the agents 0 to (\\d+), the skills 0 to (\\d+), "
            + "at most (\\d+) calls, and the time up to (\\d+)");

    private final Due due = new Due("ReadmeTest");
    private final List<String> page;

    private ReadmeTest() throws IOException {
        page = Files.readAllLines(Path.of("README.md"));
    }

    public static void main(String[] args) throws Exception {
        ReadmeTest test = new ReadmeTest();
        test.program();
        test.calls();
        test.constants();
        test.exceptions();
        test.limits();
        test.commands();
        test.tests();
        test.due.close();
    }

    private Set<String> all(Pattern pattern) {
        Set<String> found = new TreeSet<>();
        for (String line : page) {
            Matcher matcher = pattern.matcher(line);
            while (matcher.find()) {
                found.add(matcher.group(1));
            }
        }
        return found;
    }

    private void program() throws Exception {
        List<String> lines = page.subList(page.indexOf("```java") + 1, page.size());
        lines = lines.subList(0, lines.indexOf("```"));
        Set<String> voids = new TreeSet<>();
        for (Method method : Menuline.class.getDeclaredMethods()) {
            if (method.getReturnType() == void.class) {
                voids.add(method.getName());
            }
        }
        for (String line : lines) {
            Matcher call = Pattern.compile("line\\.(\\w+)\\(").matcher(line);
            if (call.find()) {
                due.is("it is said what is answered in: " + line, line.contains("// answers "), !voids.contains(call.group(1)));
            }
        }
        List<String[]> rows = ReadmeProgram.run(lines);
        due.is("how many answers the program has", rows.size(), lines.stream().filter(l -> l.contains("// answers ")).count());
        for (String[] row : rows) {
            due.same(row[0], row[1], row[2]);
        }
    }

    private void calls() throws IOException {
        Set<String> wanted = new TreeSet<>();
        for (String line : Files.readAllLines(Path.of("../shared/DOC.md"))) {
            Matcher matcher = IN_THE_FACE.matcher(line);
            if (matcher.matches()) {
                wanted.add(matcher.group(1) + "(" + matcher.group(2).replaceAll("\\w+ (\\w+)", "$1") + ")");
            }
        }
        due.is("how many calls the document has", wanted.size(), 36);
        due.same("the calls in its tables", all(ROW_OF_CALL).toString(), wanted.toString());
    }

    private void constants() {
        Set<String> wanted = new TreeSet<>();
        for (Field field : Menuline.class.getDeclaredFields()) {
            if (Modifier.isPublic(field.getModifiers())) {
                wanted.add(field.getName());
            }
        }
        due.same("the constants that it names", all(CONSTANT).toString(), wanted.toString());
    }

    /** In no throws clause do the exceptions stand in another order than in the table. */
    private void exceptions() {
        List<String> order = new ArrayList<>();
        for (String line : page) {
            Matcher matcher = ROW_OF_EXCEPTION.matcher(line);
            if (matcher.matches()) {
                order.add(matcher.group(1));
            }
        }
        for (Method method : Menuline.class.getDeclaredMethods()) {
            int last = -1;
            for (Class<?> thrown : method.getExceptionTypes()) {
                int place = order.indexOf(thrown.getSimpleName());
                due.is(method.getName() + " throws by the table " + thrown.getSimpleName(), place > last, true);
                last = place;
            }
        }
    }

    private void limits() {
        Matcher limit = LIMITS.matcher(String.join(" ", page));
        due.is("the limits are told", limit.find(), true);
        Menuline x = Scene.quiet();
        int node = Integer.parseInt(limit.group(1));
        due.is("the last node", x.begun(node), 0);
        due.refused("a node behind it", x, Due.INDEX, () -> x.begun(node + 1));
        int agent = Integer.parseInt(limit.group(2));
        due.is("the last agent", x.agent(agent), Menuline.OFF);
        due.refused("an agent behind it", x, Due.INDEX, () -> x.agent(agent + 1));
        int skill = Integer.parseInt(limit.group(3));
        due.is("the last skill", x.waiting(skill), 0);
        due.refused("a skill behind it", x, Due.ARGUMENT, () -> x.waiting(skill + 1));
        int calls = Integer.parseInt(limit.group(4));
        for (int call = 0; call < calls; call++) {
            due.is("a call", x.call(Scene.SAY), call);
        }
        due.refused("a call too many", x, Due.STATE, () -> x.call(Scene.SAY));
        int time = Integer.parseInt(limit.group(5));
        due.is("the last tick", Due.passTo(x, 0, time), time);
        due.refused("a tick behind it", x, Due.STATE, () -> x.pass(1));
    }

    private void commands() {
        for (String line : page) {
            if (line.startsWith("    javac ") || line.startsWith("    bash ")) {
                Path named = Path.of(line.substring(line.lastIndexOf(' ') + 1));
                due.is(named + " is there", Files.isRegularFile(named), true);
            }
        }
        due.is(".ci/run can be run", Files.isExecutable(Path.of(".ci/run")), true);
    }

    private void tests() throws IOException {
        Set<String> files;
        try (Stream<Path> all = Files.list(TESTS)) {
            files = all.map(file -> file.getFileName().toString().replace(".java", "")).collect(Collectors.toCollection(TreeSet::new));
        }
        Set<String> tests = files.stream().filter(name -> name.endsWith("Test")).collect(Collectors.toCollection(TreeSet::new));
        due.same("the tests in its table", all(ROW_OF_TEST).toString(), tests.toString());
        for (String name : all(FILE_WITHOUT_END)) {
            due.is("`" + name + "` is there", files.contains(name) || name.endsWith("Exception"), true);
        }
        for (String name : files) {
            boolean part = name.startsWith("EdgesOf") || all(FILE_WITHOUT_END).contains(name);
            due.is(name + " is named", part, true);
        }
        String storm = StormTest.RUNS + " runs of " + StormTest.CALLS_OF_A_RUN + " calls";
        due.is("it says " + storm, String.join(" ", page).contains(storm), true);
    }
}
