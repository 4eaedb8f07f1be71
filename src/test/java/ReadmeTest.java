import java.io.IOException;
import java.lang.reflect.Method;
import java.lang.reflect.Modifier;
import java.nio.file.Files;
import java.nio.file.Path;
import java.util.ArrayList;
import java.util.List;
import java.util.Set;
import java.util.TreeSet;
import java.util.regex.Matcher;
import java.util.regex.Pattern;
import java.util.stream.Stream;

/**
 * README.md: that it shows every call of the face with its answer, and names every test. It writes
 * the calls out as a program, ReadmeCalls, which .ci/run compiles and runs: so they are compiled as
 * they stand on the page, and each one has to answer what the page says.
 */
final class ReadmeTest {
    private static final Path PAGE = Path.of("README.md");
    private static final Path TESTS = Path.of("src", "test", "java");
    private static final Path PROGRAM = Path.of("build", "readme", "ReadmeCalls.java");
    private static final Pattern ANSWERED = Pattern.compile(
            "(?:int (\\w+) = )?(system\\.(\\w+)\\(.*\\)); +// (?:(-?\\d+)|throws (\\w+)): \\S.*");
    private static final Pattern ROW = Pattern.compile("\\| `(\\w+)` \\| .*");

    private final Set<String> shown = new TreeSet<>();
    private final List<String> program = new ArrayList<>();

    private ReadmeTest() {
    }

    public static void main(String[] args) throws IOException {
        List<String> page = Files.readAllLines(PAGE);
        ReadmeTest test = new ReadmeTest();
        test.readCalls(page);
        test.everyCallIsShown();
        test.writeProgram();
        everyTestIsNamed(page);
        Check.isTrue(".ci/run can be run", Files.isExecutable(Path.of(".ci", "run")));
        Check.finish("ReadmeTest");
    }

    private void readCalls(List<String> page) {
        boolean isJava = false;
        for (int place = 0; place < page.size(); place++) {
            String line = page.get(place);
            if (line.startsWith("```")) {
                isJava = line.equals("```java");
            } else if (isJava) {
                readLine("README.md, line " + (place + 1), line);
            }
        }
    }

    private void readLine(String where, String line) {
        Matcher call = ANSWERED.matcher(line);
        if (call.matches()) {
            shown.add(call.group(3));
            writeCall(quoted(where + ": " + call.group(2)), call);
        } else {
            boolean isInLoop = line.startsWith(" ");
            Check.isTrue(where + " tells its answer", isInLoop || !line.contains("system."));
            program.add(line);
        }
    }

    private void writeCall(String what, Matcher call) {
        String name = call.group(1);
        if (call.group(5) != null) {
            program.add("Check.thrown(" + what + ", " + call.group(5) + ".class, () -> " + call.group(2) + ");");
            return;
        }
        if (name != null) {
            program.add("int " + name + " = " + call.group(2) + ";");
        }
        program.add("Check.same(" + what + ", " + (name == null ? call.group(2) : name) + ", " + call.group(4) + "L);");
    }

    private static String quoted(String words) {
        return '"' + words.replace("\\", "\\\\").replace("\"", "\\\"") + '"';
    }

    private void everyCallIsShown() {
        for (Method method : MasterPins.class.getDeclaredMethods()) {
            if (Modifier.isPublic(method.getModifiers())) {
                Check.isTrue("README.md shows " + method.getName(), shown.contains(method.getName()));
            }
        }
    }

    private void writeProgram() throws IOException {
        List<String> lines = new ArrayList<>();
        lines.add("final class ReadmeCalls {");
        lines.add("public static void main(String[] args) {");
        lines.addAll(program);
        lines.add("Check.finish(\"ReadmeCalls\");");
        lines.add("}");
        lines.add("}");
        Files.createDirectories(PROGRAM.getParent());
        Files.write(PROGRAM, lines);
    }

    private static void everyTestIsNamed(List<String> page) throws IOException {
        Set<String> named = new TreeSet<>();
        for (String line : page) {
            Matcher row = ROW.matcher(line);
            if (row.matches()) {
                named.add(row.group(1));
            }
        }
        Set<String> there = new TreeSet<>();
        try (Stream<Path> files = Files.list(TESTS)) {
            files.map(file -> file.getFileName().toString())
                    .filter(name -> name.endsWith("Test.java"))
                    .forEach(name -> there.add(name.substring(0, name.length() - ".java".length())));
        }
        Check.isTrue("README.md names the tests " + there + " and not " + named, named.equals(there));
    }
}
