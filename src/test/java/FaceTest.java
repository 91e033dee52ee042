import java.io.IOException;
import java.lang.reflect.Array;
import java.lang.reflect.Constructor;
import java.lang.reflect.Field;
import java.lang.reflect.Method;
import java.lang.reflect.Modifier;
import java.nio.file.Files;
import java.nio.file.Path;
import java.util.ArrayList;
import java.util.IdentityHashMap;
import java.util.List;
import java.util.Map;
import java.util.Set;
import java.util.TreeSet;
import java.util.regex.Matcher;
import java.util.regex.Pattern;

/** The class's face as the document prints it, its constants, and the rules of LANGUAGE.md that a test can see. */
public final class FaceTest {
    private static final Path DOCUMENT = Path.of("../shared/DOC.md");
    private static final Path SOURCE = Path.of("src/main/java/SeasonTiers.java");
    private static final int LONGEST_METHOD = 60;
    private static final int MOST_OBJECTS = 1200;
    private static final int MOST_ELEMENTS = 20000;

    public static void main(String[] args) throws IOException, IllegalAccessException {
        constants();
        face();
        nestedClasses();
        words();
        shortMethods();
        smallObject();
        sameAnswers();
        Check.end();
    }

    private static void constants() {
        Check.same("NONE", SeasonTiers.NONE, -1);
        Check.same("SYNTAX_ERROR", SeasonTiers.SYNTAX_ERROR, -2);
        Check.same("VALUE_ERROR", SeasonTiers.VALUE_ERROR, -3);
        Check.same("UNKNOWN", SeasonTiers.UNKNOWN, -4);
        Check.same("TWICE", SeasonTiers.TWICE, -5);
        Check.same("NO_ROOM", SeasonTiers.NO_ROOM, -6);
        Check.same("TOO_MANY", SeasonTiers.TOO_MANY, -7);
    }

    private static void face() throws IOException {
        Set<String> due = new TreeSet<>();
        Matcher line = Pattern.compile("^    public (.*?)( = -\\d)?;$", Pattern.MULTILINE).matcher(Files.readString(DOCUMENT));
        while (line.find()) {
            due.add(line.group(1).replaceAll("(int|long) [a-z]+(?=[,)])", "$1").replaceAll(", ", ","));
        }
        Set<String> got = new TreeSet<>();
        for (Field f : SeasonTiers.class.getDeclaredFields()) {
            seen(f.getName(), f.getModifiers());
            if (Modifier.isPublic(f.getModifiers())) {
                got.add("static final " + f.getType() + " " + f.getName());
            }
        }
        Set<String> publicNames = new TreeSet<>();
        for (Method m : SeasonTiers.class.getDeclaredMethods()) {
            seen(m.getName(), m.getModifiers());
            if (Modifier.isPublic(m.getModifiers())) {
                publicNames.add(m.getName());
                got.add(m.getReturnType() + " " + m.getName() + parameters(m.getParameterTypes()) + thrown(m));
            }
        }
        for (Constructor<?> c : SeasonTiers.class.getDeclaredConstructors()) {
            got.add("SeasonTiers" + parameters(c.getParameterTypes()));
        }
        Check.same("the face", String.join("\n", got), String.join("\n", due));
        for (Method m : SeasonTiers.class.getDeclaredMethods()) {
            boolean both = Modifier.isPrivate(m.getModifiers()) && publicNames.contains(m.getName());
            Check.same("a private method with a public name: " + m.getName(), both ? 1 : 0, 0);
        }
        int modifiers = SeasonTiers.class.getModifiers();
        Check.same("public and final", modifiers, Modifier.PUBLIC | Modifier.FINAL);
    }

    private static void seen(String name, int modifiers) {
        boolean good = Modifier.isPublic(modifiers) || Modifier.isPrivate(modifiers);
        Check.same("public or private: " + name, good ? 1 : 0, 1);
    }

    private static String parameters(Class<?>[] types) {
        StringBuilder text = new StringBuilder("(");
        for (Class<?> type : types) {
            text.append(text.length() > 1 ? "," : "").append(type.getSimpleName());
        }
        return text.append(")").toString();
    }

    private static String thrown(Method m) {
        StringBuilder text = new StringBuilder();
        for (Class<?> type : m.getExceptionTypes()) {
            text.append(text.length() == 0 ? " throws " : ",").append(type.getSimpleName());
        }
        return text.toString();
    }

    private static void nestedClasses() {
        Class<?>[] classes = SeasonTiers.class.getDeclaredClasses();
        Check.same("some twelve classes", classes.length <= 12 ? 1 : 0, 1);
        for (Class<?> nested : classes) {
            int modifiers = nested.getModifiers();
            Check.same("static, not public: " + nested, Modifier.isStatic(modifiers) && !Modifier.isPublic(modifiers) ? 1 : 0, 1);
            int fields = 0;
            for (Field f : nested.getDeclaredFields()) {
                fields += Modifier.isStatic(f.getModifiers()) ? 0 : 1;
            }
            Check.same("some twenty fields: " + nested, fields <= 20 ? 1 : 0, 1);
        }
    }

    private static void words() throws IOException {
        String source = Files.readString(SOURCE);
        String code = source.replaceAll("(?s)/\\*.*?\\*/", "").replaceAll("//.*", "");
        String[] banned = {"import ", "package ", "->", "::", " try ", "catch", "finally", "synchronized", "assert", "static {",
            "Thread", "Random", "java.", "Exact(", ".hashCode", ".toString", "System.out", "System.nano", "System.current", "\" +"};
        for (String word : banned) {
            Check.same("in the program: '" + word + "'", code.indexOf(word), -1);
        }
        Matcher library = Pattern.compile("\\b(Math|System|Integer|Long|Arrays)\\.([a-zA-Z]+)").matcher(code);
        Set<String> allowed = Set.of("Math.abs", "Math.floorMod", "System.arraycopy");
        while (library.find()) {
            Check.same("of the library: " + library.group(), allowed.contains(library.group()) ? 1 : 0, 1);
        }
        for (int i = 0; i < source.length(); i++) {
            if (source.charAt(i) < 1 || source.charAt(i) > 127) {
                Check.same("a sign of the source", source.charAt(i), ' ');
            }
        }
        // A call may make nothing but the exception that it throws.
        Matcher made = Pattern.compile("^.*\\bnew\\b.*$", Pattern.MULTILINE).matcher(code);
        while (made.find()) {
            String made1 = made.group();
            boolean good = made1.contains("throw new ") || made1.contains("final ") || made1.contains("[i] = new ");
            Check.same("made: " + made1.trim(), good ? 1 : 0, 1);
        }
    }

    private static void shortMethods() throws IOException {
        List<String> lines = Files.readAllLines(SOURCE);
        int start = -1;
        String indent = "";
        for (int i = 0; i < lines.size(); i++) {
            String line = lines.get(i);
            if (line.matches("( {4}| {8})[a-zA-Z].*\\(.*\\).*\\{") && !line.contains(" class ")) {
                start = i;
                indent = line.substring(0, line.length() - line.stripLeading().length());
            } else if (start >= 0 && line.equals(indent + "}")) {
                Check.same("a long method at line " + (start + 1), i - start + 1 <= LONGEST_METHOD ? 1 : 0, 1);
                start = -1;
            }
        }
    }

    /** Objects and elements that one object keeps; everything that a run makes beside them are exceptions. */
    private static void smallObject() throws IllegalAccessException {
        Map<Object, Boolean> met = new IdentityHashMap<>();
        List<Object> open = new ArrayList<>();
        open.add(new SeasonTiers());
        met.put(open.get(0), true);
        long elements = 0;
        while (!open.isEmpty()) {
            Object o = open.remove(open.size() - 1);
            List<Object> parts = new ArrayList<>();
            if (o.getClass().isArray()) {
                elements += Array.getLength(o);
                for (int i = 0; i < Array.getLength(o) && !o.getClass().getComponentType().isPrimitive(); i++) {
                    parts.add(Array.get(o, i));
                }
            } else {
                for (Field f : o.getClass().getDeclaredFields()) {
                    if (!Modifier.isStatic(f.getModifiers())) {
                        elements++;
                        f.setAccessible(true);
                        parts.add(f.getType().isPrimitive() ? null : f.get(o));
                    }
                }
            }
            for (Object part : parts) {
                if (part != null && met.put(part, true) == null) {
                    open.add(part);
                }
            }
        }
        System.out.println("one object: " + met.size() + " objects and arrays, " + elements + " fields and elements");
        Check.same("few objects", met.size() <= MOST_OBJECTS ? 1 : 0, 1);
        Check.same("few elements", elements <= MOST_ELEMENTS ? 1 : 0, 1);
    }

    /** Two objects do not know of each other. */
    private static void sameAnswers() {
        SeasonTiers x = Check.of("cycle 3;tier a 9 1 1 1 1;tier b 9 1 1 1 1;file x 1 on b;");
        SeasonTiers y = new SeasonTiers();
        Check.same("the one", Check.written(x), "a: b:x");
        Check.same("the other", y.count(0), 2);
        Check.refused("nothing was written by the other", Check.INDEX, () -> y.writtenByte(0));
    }
}
