import java.io.IOException;
import java.lang.reflect.Method;
import java.lang.reflect.Modifier;
import java.net.URL;
import java.net.URLClassLoader;
import java.nio.file.DirectoryStream;
import java.nio.file.Files;
import java.nio.file.Path;
import java.util.ArrayList;
import java.util.List;
import java.util.Set;
import java.util.TreeSet;
import java.util.regex.Matcher;
import java.util.regex.Pattern;
import javax.tools.ToolProvider;

/** README.md: its example is compiled and answers as it says; its calls and tests are all there are. */
public final class ReadmeTest {
    private static final Path README = Path.of("README.md");
    private static final Path TESTS = Path.of("src/test/java");
    private static final Pattern TOLD = Pattern.compile("(.*;) +// (answers|throws) ([^:]+)(: .*)?");
    private static final Pattern KEPT = Pattern.compile("int (\\w+) = .*;");

    private final Checks checks = new Checks("ReadmeTest");
    private final String text;
    private final List<String> calls = new ArrayList<>();
    private final List<String> due = new ArrayList<>();

    private ReadmeTest() throws IOException {
        text = Files.readString(README);
    }

    public static void main(String[] args) throws Exception {
        ReadmeTest test = new ReadmeTest();
        test.theExampleHolds();
        test.allCallsAreTold();
        test.allTestsAreTold();
        test.theScriptIsThere();
        test.checks.end();
    }

    private void theExampleHolds() throws Exception {
        String code = "public final class Example {\n"
                + "public static void run(java.util.List<String> got) {\n" + example() + "}\n}\n";
        Path build = Files.createTempDirectory("readme");
        try {
            List<String> got = played(build, code);
            checks.due("how many answers the example tells", true, due.size() > 30);
            checks.due("how many answers there are", due.size(), got.size());
            for (int i = 0; i < Math.min(due.size(), got.size()); i++) {
                if (!got.get(i).equals(due.get(i))) {
                    checks.fail(calls.get(i) + " answered " + got.get(i) + ", README.md says " + due.get(i));
                }
            }
        } finally {
            remove(build);
        }
    }

    private String example() {
        int start = text.indexOf("```java\n");
        int end = text.indexOf("\n```\n", Math.max(start, 0));
        checks.due("README.md has an example", true, start >= 0 && end > start);
        StringBuilder code = new StringBuilder();
        for (String line : text.substring(start, end).split("\n")) {
            if (!line.startsWith("```")) {
                code.append(asked(line)).append('\n');
            }
        }
        return code.toString();
    }

    /** The line, and what puts its answer down, if it tells one. */
    private String asked(String line) {
        Matcher told = TOLD.matcher(line);
        if (!told.matches()) {
            return line;
        }
        String statement = told.group(1);
        calls.add(statement);
        due.add(told.group(3).strip());
        if (told.group(2).equals("throws")) {
            return "try { " + statement + " got.add(\"nothing thrown\"); }"
                    + " catch (RuntimeException e) { got.add(e.getClass().getSimpleName()); }";
        }
        Matcher kept = KEPT.matcher(statement);
        if (kept.matches()) {
            return statement + " got.add(String.valueOf(" + kept.group(1) + "));";
        }
        return "got.add(String.valueOf(" + statement.substring(0, statement.length() - 1) + "));";
    }

    private List<String> played(Path build, String code) throws Exception {
        Path source = build.resolve("Example.java");
        Files.writeString(source, code);
        int compiled = ToolProvider.getSystemJavaCompiler().run(null, null, null, "-encoding", "UTF-8",
                "-cp", System.getProperty("java.class.path"), "-d", build.toString(), source.toString());
        checks.due("the example compiles", 0, compiled);
        List<String> got = new ArrayList<>();
        if (compiled == 0) {
            try (URLClassLoader loader = new URLClassLoader(new URL[] {build.toUri().toURL()})) {
                loader.loadClass("Example").getMethod("run", List.class).invoke(null, got);
            }
        }
        return got;
    }

    private static void remove(Path directory) throws IOException {
        try (DirectoryStream<Path> files = Files.newDirectoryStream(directory)) {
            for (Path file : files) {
                Files.delete(file);
            }
        }
        Files.delete(directory);
    }

    private void allCallsAreTold() {
        Set<String> want = new TreeSet<>();
        for (Method method : Turnpike.class.getDeclaredMethods()) {
            if (Modifier.isPublic(method.getModifiers())) {
                want.add(method.getName() + " of " + method.getParameterCount());
            }
        }
        Set<String> told = new TreeSet<>();
        Matcher call = Pattern.compile("`(\\w+)\\(([A-Za-z, ]*)\\)`").matcher(text);
        while (call.find()) {
            String takes = call.group(2);
            told.add(call.group(1) + " of " + (takes.isEmpty() ? 0 : takes.split(",").length));
        }
        same("call", want, told);
    }

    private void allTestsAreTold() throws IOException {
        Set<String> want = new TreeSet<>();
        try (DirectoryStream<Path> files = Files.newDirectoryStream(TESTS, "*Test.java")) {
            for (Path file : files) {
                want.add(file.getFileName().toString().replace(".java", ""));
            }
        }
        Set<String> told = new TreeSet<>();
        Matcher test = Pattern.compile("`(\\w+Test)`").matcher(text);
        while (test.find()) {
            told.add(test.group(1));
        }
        same("test", want, told);
    }

    private void same(String what, Set<String> want, Set<String> told) {
        for (String one : want) {
            checks.due("README.md tells the " + what + " " + one, true, told.contains(one));
        }
        for (String one : told) {
            checks.due("there is the " + what + " " + one, true, want.contains(one));
        }
    }

    private void theScriptIsThere() {
        checks.due("README.md tells how to run the tests", true, text.contains("\n    bash .ci/run\n"));
        checks.due(".ci/run can be run", true, Files.isExecutable(Path.of(".ci/run")));
    }
}
