import java.io.IOException;
import java.lang.reflect.Method;
import java.lang.reflect.Modifier;
import java.nio.file.Files;
import java.nio.file.Path;
import java.util.ArrayList;
import java.util.List;
import java.util.Set;
import java.util.TreeSet;
import java.util.regex.Matcher;
import java.util.regex.Pattern;
import java.util.stream.Collectors;
import java.util.stream.Stream;

/** What README.md says of the class and of the tests must be true as it stands there. */
public final class ReadmeTest {
    private static final Path TESTS = Path.of("src/test/java");
    private static final Path CI = Path.of(".ci/run");

    private static String page = "";

    public static void main(String[] args) throws IOException, InterruptedException {
        page = Files.readString(Path.of("README.md"));
        example();
        wayOfTesting();
        calls();
        tests();
        paths();
        Check.end();
    }

    /** The blocks of the page that are marked so, in their order. */
    private static List<String> blocks(String mark) {
        List<String> found = new ArrayList<>();
        Matcher block = Pattern.compile("(?ms)^```" + mark + "\\n(.*?)^```$").matcher(page);
        while (block.find()) {
            found.add(block.group(1));
        }
        return found;
    }

    /** The commands are carried out as they stand on the page. */
    private static void example() throws IOException, InterruptedException {
        List<String> programs = blocks("java");
        Check.same("one program", programs.size(), 1);
        Check.same("the example", String.join("", programs), Files.readString(TESTS.resolve("Example.java")));
        List<String> commands = blocks("sh");
        Check.same("commands of the example and of the tests", commands.size(), 2);
        Process shell = new ProcessBuilder("sh", "-ec", commands.get(0)).redirectError(ProcessBuilder.Redirect.INHERIT).start();
        String printed = new String(shell.getInputStream().readAllBytes());
        Check.same("the example ends well", shell.waitFor(), 0);
        Check.same("what the example prints", printed, String.join("", blocks("text")));
    }

    /** The script is running this test, so that it can only be looked at. */
    private static void wayOfTesting() throws IOException {
        Check.same("the way of running the tests", blocks("sh").get(1), ".ci/run\n");
        Check.same("it can be run", Files.isExecutable(CI) ? 1 : 0, 1);
        String script = Files.readString(CI);
        for (String needed : new String[] {"javac ", "java ", "src/test/java/*Test.java", "\"$shared\"/tests/*.java", "shared=../shared\n"}) {
            Check.same("the script has " + needed, script.contains(needed) ? 1 : 0, 1);
        }
    }

    private static void calls() {
        Set<String> due = new TreeSet<>();
        for (Method method : SeasonTiers.class.getDeclaredMethods()) {
            if (Modifier.isPublic(method.getModifiers())) {
                due.add(method.getName());
            }
        }
        Set<String> told = new TreeSet<>();
        int cells = 0;
        Matcher row = Pattern.compile("(?m)^\\| [a-z ]+ \\| (`.*`) \\|$").matcher(page);
        while (row.find()) {
            for (String cell : row.group(1).split(", ")) {
                told.add(cell.replace("`", ""));
                cells++;
            }
        }
        Check.same("the calls", told.toString(), due.toString());
        Check.same("each call is told once", cells, due.size());
    }

    private static void tests() throws IOException {
        Set<String> due;
        try (Stream<Path> files = Files.list(TESTS)) {
            due = files.map(file -> file.getFileName().toString()).filter(name -> name.endsWith("Test.java"))
                    .map(name -> name.substring(0, name.length() - 5)).collect(Collectors.toCollection(TreeSet::new));
        }
        Set<String> told = new TreeSet<>();
        Matcher row = Pattern.compile("(?m)^\\| ([A-Za-z]+Test) \\| .* \\|$").matcher(page);
        while (row.find()) {
            told.add(row.group(1));
        }
        Check.same("the tests", told.toString(), due.toString());
    }

    private static void paths() {
        Matcher path = Pattern.compile("`((?:\\.\\./|\\.ci/|src/)[A-Za-z./]+)`").matcher(page);
        while (path.find()) {
            Check.same("there is " + path.group(1), Files.exists(Path.of(path.group(1))) ? 1 : 0, 1);
        }
    }
}
