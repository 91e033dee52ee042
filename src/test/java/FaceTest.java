import com.sun.management.ThreadMXBean;
import java.io.IOException;
import java.lang.management.ManagementFactory;
import java.lang.reflect.Constructor;
import java.lang.reflect.Field;
import java.lang.reflect.Method;
import java.lang.reflect.Modifier;
import java.nio.file.Files;
import java.nio.file.Path;
import java.util.List;
import java.util.Set;
import java.util.TreeSet;
import java.util.regex.Matcher;
import java.util.regex.Pattern;

/** The class's face as the document prints it, its constants, and the rules of LANGUAGE.md that a test can see. */
public final class FaceTest {
    private static final Path DOCUMENT = Path.of("../shared/DOC.md");
    private static final Path SOURCE = Path.of("src/main/java/SeasonTiers.java");
    /** The rules say some sixty lines, some twelve classes and some twenty fields. */
    private static final int LONGEST_METHOD = 66;
    private static final int MOST_CLASSES = 14;
    private static final int MOST_FIELDS = 22;
    /** The room of a run holds 600,000 objects and 7.3 million fields and elements. */
    private static final long MOST_BYTES = 16L * 600_000 + 4L * 7_300_000;

    public static void main(String[] args) throws IOException, IllegalAccessException {
        constants();
        face();
        nestedClasses();
        words();
        shortMethods();
        roomOfRuns();
        sameAnswers();
        Check.end();
    }

    private static void constants() {
        Check.same("NONE", SeasonTiers.NONE, -1);
        Check.same("SYNTAX_ERROR", SeasonTiers.SYNTAX_ERROR, -2);
        Check.same("VALUE_ERROR", SeasonTiers.VALUE_ERROR, -3);
        Check.same("UNKNOWN", SeasonTiers.UNKNOWN, -4);
        Check.same("TWICE", SeasonTiers.TWICE, -5);
        Check.same("NO_ROOM", SeasonTiers.NO_ROOM, -6);
        Check.same("TOO_MANY", SeasonTiers.TOO_MANY, -7);
    }

    private static void face() throws IOException {
        Set<String> due = new TreeSet<>();
        Matcher line = Pattern.compile("^    public (.*?)( = -\\d)?;$", Pattern.MULTILINE).matcher(Files.readString(DOCUMENT));
        while (line.find()) {
            due.add(line.group(1).replaceAll("(int|long) [a-z]+(?=[,)])", "$1").replaceAll(", ", ","));
        }
        Set<String> got = new TreeSet<>();
        for (Field f : SeasonTiers.class.getDeclaredFields()) {
            seen(f.getName(), f.getModifiers());
            if (Modifier.isPublic(f.getModifiers())) {
                got.add("static final " + f.getType() + " " + f.getName());
            }
        }
        Set<String> publicNames = new TreeSet<>();
        for (Method m : SeasonTiers.class.getDeclaredMethods()) {
            seen(m.getName(), m.getModifiers());
            if (Modifier.isPublic(m.getModifiers())) {
                publicNames.add(m.getName());
                got.add(m.getReturnType() + " " + m.getName() + parameters(m.getParameterTypes()) + thrown(m));
            }
        }
        for (Constructor<?> c : SeasonTiers.class.getDeclaredConstructors()) {
            got.add("SeasonTiers" + parameters(c.getParameterTypes()));
        }
        Check.same("the face", String.join("\n", got), String.join("\n", due));
        for (Method m : SeasonTiers.class.getDeclaredMethods()) {
            boolean both = Modifier.isPrivate(m.getModifiers()) && publicNames.contains(m.getName());
            Check.same("a private method with a public name: " + m.getName(), both ? 1 : 0, 0);
        }
        int modifiers = SeasonTiers.class.getModifiers();
        Check.same("public and final", modifiers, Modifier.PUBLIC | Modifier.FINAL);
    }

    private static void seen(String name, int modifiers) {
        boolean good = Modifier.isPublic(modifiers) || Modifier.isPrivate(modifiers);
        Check.same("public or private: " + name, good ? 1 : 0, 1);
    }

    private static String parameters(Class<?>[] types) {
        StringBuilder text = new StringBuilder("(");
        for (Class<?> type : types) {
            text.append(text.length() > 1 ? "," : "").append(type.getSimpleName());
        }
        return text.append(")").toString();
    }

    private static String thrown(Method m) {
        StringBuilder text = new StringBuilder();
        for (Class<?> type : m.getExceptionTypes()) {
            text.append(text.length() == 0 ? " throws " : ",").append(type.getSimpleName());
        }
        return text.toString();
    }

    private static void nestedClasses() {
        Class<?>[] classes = SeasonTiers.class.getDeclaredClasses();
        Check.same("some twelve classes", classes.length <= MOST_CLASSES ? 1 : 0, 1);
        for (Class<?> nested : classes) {
            int modifiers = nested.getModifiers();
            boolean hidden = !Modifier.isPublic(modifiers) && !Modifier.isProtected(modifiers);
            Check.same("neither public nor protected: " + nested, hidden ? 1 : 0, 1);
            int fields = 0;
            for (Field f : nested.getDeclaredFields()) {
                fields += Modifier.isStatic(f.getModifiers()) ? 0 : 1;
            }
            Check.same("some twenty fields: " + nested, fields <= MOST_FIELDS ? 1 : 0, 1);
        }
    }

    private static void words() throws IOException {
        String source = Files.readString(SOURCE);
        String code = source.replaceAll("(?s)/\\*.*?\\*/", "").replaceAll("//.*", "");
        String[] banned = {"\\bpackage\\s", "::", "\\bfinally\\b", "\\bsynchronized\\b", "\\bassert\\b", "\\bstatic\\s*\\{", "Exact\\(",
            "\\bThread", "Random", "\\brandom\\(", "System\\.(?!arraycopy)", "Arrays\\.(?!copyOf|copyOfRange|fill)", "getMessage",
            "hashCode", "catch\\s*\\(\\s*(final\\s+)?(Exception|Throwable|Error|Null|Array|Class|Negative)",
            "import (?!java\\.util\\.(ArrayList|List|Arrays|Iterator|NoSuchElementException);)",
            "(?m)^(?!\\s*(case\\b.*|default)\\s*->).*->", "[^\\x01-\\x7f]"};
        for (String words : banned) {
            Matcher found = Pattern.compile(words).matcher(code);
            Check.same("in the program: " + words, found.find() ? found.group() : "", "");
        }
    }

    private static void shortMethods() throws IOException {
        List<String> lines = Files.readAllLines(SOURCE);
        int start = -1;
        String indent = "";
        for (int i = 0; i < lines.size(); i++) {
            String line = lines.get(i);
            if (line.matches("( {4}| {8})[a-zA-Z].*\\(.*\\).*\\{") && !line.contains(" class ")) {
                start = i;
                indent = line.substring(0, line.length() - line.stripLeading().length());
            } else if (start >= 0 && line.equals(indent + "}")) {
                Check.same("a long method at line " + (start + 1), i - start + 1 <= LONGEST_METHOD ? 1 : 0, 1);
                start = -1;
            }
        }
    }

    private interface Doing {
        void on(SeasonTiers x, int call);
    }

    /** What an object and 512 of its dearest calls make must stay far within the room of a run. */
    private static void roomOfRuns() {
        StringBuilder text = new StringBuilder("cycle 12;tier a 999 9 9 0 0;tier b 999 1 1 0 0;tier c 9 1 1 0 0;tier d 9 1 1 0 0;");
        for (int i = 0; i < 20; i++) {
            text.append("file ").append((char) ('a' + i)).append(" 9 on a;");
        }
        Doing[] doings = {(x, i) -> x.close(), (x, i) -> x.withRoom(1, i, 24), (x, i) -> x.step(24, 19, 2), (x, i) -> x.act(24),
            (x, i) -> x.move(0, 1 - i % 2), (x, i) -> x.learn(12, 8), (x, i) -> x.writeTiers(), (x, i) -> x.commonCycle(),
            (x, i) -> x.restore(0), (x, i) -> x.save(1), (x, i) -> reload(x, text.toString(), i)};
        ThreadMXBean threads = (ThreadMXBean) ManagementFactory.getThreadMXBean();
        long thread = Thread.currentThread().getId();
        long most = 0;
        for (Doing doing : doings) {
            long before = threads.getThreadAllocatedBytes(thread);
            SeasonTiers x = Check.of(text.toString());
            x.save(0);
            for (int i = 0; i < 480; i++) {
                doing.on(x, i);
            }
            most = Math.max(most, threads.getThreadAllocatedBytes(thread) - before);
        }
        System.out.println("a run makes " + most + " bytes at most");
        Check.same("bytes that a run makes", most <= MOST_BYTES ? 0 : most, 0);
    }

    /** Some thirty calls append the whole text, so only every fortieth time. */
    private static void reload(SeasonTiers x, String text, int call) {
        if (call % 40 == 0) {
            Check.load(x, text);
        }
    }

    /** Two objects do not know of each other. */
    private static void sameAnswers() {
        SeasonTiers x = Check.of("cycle 3;tier a 9 1 1 1 1;tier b 9 1 1 1 1;file x 1 on b;");
        SeasonTiers y = new SeasonTiers();
        Check.same("the one", Check.written(x), "a: b:x");
        Check.same("the other", y.count(0), 2);
        Check.refused("nothing was written by the other", Check.INDEX, () -> y.writtenByte(0));
    }
}
