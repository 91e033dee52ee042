import java.io.IOException;
import java.nio.file.Files;
import java.nio.file.Path;
import java.util.ArrayList;
import java.util.List;
import java.util.Map;
import java.util.TreeMap;
import java.util.regex.Pattern;

/**
 * What the edge tests share: each sentence of the document has a test of its own, which is found by
 * its words. At the end the sections are looked through for a sentence without one.
 */
abstract class Edges {
    static final int NONE = SeasonTiers.NONE;
    static final String TIERS = "cycle 2;tier a 10 1 1 1 1;tier b 10 1 1 1 1;";
    static final String FOUR = TIERS + "tier c 10 1 1 1 1;tier d 10 1 1 1 1;";
    static final String TWO = "cycle 2;tier hot 100 3 1 2 1;tier cold 1000 1 5 1 2;";
    static final String STORE = TWO + "file a 10 on hot;file b 20 on cold;";

    private static final Path DOCUMENT = Path.of("../shared/DOC.md");
    private static final Pattern HEADING = Pattern.compile("## .*|\\d\\. [A-Z, ]+");

    /** The lines of each section of the document, by its heading. */
    private static final Map<String, List<String>> SECTIONS = sections();
    private static final Map<String, List<String>> TESTED = new TreeMap<>();

    private static String section = "";
    private static String words = "";
    private static int nth = 0;

    interface Part {
        void run();
    }

    interface Numbered {
        Object at(int number);
    }

    interface OnObject {
        Object on(SeasonTiers x, int number);
    }

    private static Map<String, List<String>> sections() {
        Map<String, List<String>> found = new TreeMap<>();
        List<String> lines = new ArrayList<>();
        try {
            for (String line : Files.readAllLines(DOCUMENT)) {
                if (HEADING.matcher(line).matches()) {
                    lines = new ArrayList<>();
                    found.put(line.startsWith("## ") ? line.substring(3) : line, lines);
                } else if (line.startsWith("The constants: ")) {
                    lines = new ArrayList<>();
                    found.put("The constants", lines);
                    lines.add(line);
                } else if (!line.isBlank() && !line.startsWith("```") && !line.startsWith("Ahead of the calls")) {
                    lines.add(line.strip());
                }
            }
        } catch (IOException e) {
            System.out.println("the document can't be read: " + e.getMessage());
            System.exit(1);
        }
        return found;
    }

    // ---- sentences

    /** Begins a section, by its whole heading. */
    static void section(String heading) {
        section = heading;
        words = "";
        nth = 0;
        TESTED.computeIfAbsent(heading, h -> new ArrayList<>());
        Check.same("a section of the document: " + heading, SECTIONS.containsKey(heading) ? 1 : 0, 1);
    }

    /** Tests what these words of the section say; a bar parts the words of several sentences. */
    static void says(String quoted, Part test) {
        words = quoted;
        nth = 0;
        for (String quote : quoted.split(" \\| ")) {
            boolean there = SECTIONS.getOrDefault(section, List.of()).stream().anyMatch(l -> l.contains(quote));
            Check.same(section + " says: " + quote, there ? 1 : 0, 1);
            TESTED.get(section).add(quote);
        }
        try {
            test.run();
        } catch (RuntimeException e) {
            Check.same(here(), "threw " + e, "an answer");
        }
        words = "";
    }

    private static String here() {
        nth++;
        return section + ", '" + words + "', check " + nth;
    }

    /** Each sentence of the sections that were begun must have a test. */
    static void allSaid() {
        for (String heading : TESTED.keySet()) {
            for (String line : SECTIONS.getOrDefault(heading, List.of())) {
                for (String sentence : line.replaceFirst("^(- )?`.*?`: ", "").split("(?<=[.;]\\)?)\\s+(?=[A-Z(])")) {
                    boolean tested = TESTED.get(heading).stream().anyMatch(q -> sentence.contains(q) || q.contains(sentence));
                    Check.same(heading + " has a test of: " + sentence, tested ? 1 : 0, 1);
                }
            }
        }
    }

    // ---- answers and exceptions

    static void is(long got, long due) {
        Check.same(here(), got, due);
    }

    static void is(double got, double due) {
        Check.same(here(), got, due);
    }

    static void is(String got, String due) {
        Check.same(here(), got, due);
    }

    static void index(Check.Call call) {
        Check.refused(here(), Check.INDEX, call);
    }

    static void argument(Check.Call call) {
        Check.refused(here(), Check.ARGUMENT, call);
    }

    static void state(Check.Call call) {
        Check.refused(here(), Check.STATE, call);
    }

    /** The call answers, whatever it is. */
    static void taken(Check.Call call) {
        String got = "an answer";
        try {
            call.make();
        } catch (RuntimeException e) {
            got = "threw " + e;
        }
        Check.same(here(), got, "an answer");
    }

    /** Numbers from 0 that there are so many of: those beside them are refused. */
    static void indexBeside(int many, Numbered call) {
        for (int number : new int[] {-1, many, Integer.MIN_VALUE, Integer.MAX_VALUE}) {
            index(() -> call.at(number));
        }
    }

    static void argumentBeside(int least, int greatest, Numbered call) {
        for (int number : new int[] {least - 1, greatest + 1, Integer.MIN_VALUE, Integer.MAX_VALUE}) {
            argument(() -> call.at(number));
        }
    }

    /** The numbers of files: in stores of no, of one and of 20 files, and behind a drop. */
    static void fileNumbers(OnObject call) {
        for (int many : new int[] {0, 1, 20}) {
            indexBeside(many, n -> call.on(withFiles(many), n));
            if (many > 0) {
                taken(() -> call.on(withFiles(many), 0));
                taken(() -> call.on(withFiles(many), many - 1));
            }
        }
        SeasonTiers x = withFiles(3);
        x.drop(0);
        indexBeside(2, n -> call.on(x, n));
        taken(() -> call.on(x, 1));
    }

    /** The numbers of tiers: in stores of two and of four. */
    static void tierNumbers(OnObject call) {
        indexBeside(2, n -> call.on(Check.of(TIERS + "file x 1 on a;"), n));
        indexBeside(4, n -> call.on(Check.of(FOUR + "file x 1 on a;"), n));
        for (int tier = 0; tier < 4; tier++) {
            int number = tier;
            taken(() -> call.on(Check.of(FOUR + "file x 1 on a;"), number));
        }
        taken(() -> call.on(Check.of(TIERS + "file x 1 on a;"), 1));
    }

    static void periodNumbers(OnObject call) {
        argumentBeside(1, 24, n -> call.on(Check.of(STORE), n));
        taken(() -> call.on(Check.of(STORE), 1));
        taken(() -> call.on(Check.of(STORE), 24));
    }

    // ---- texts and stores

    /** So many files of size 1 on tier a, which costs more than tier b. */
    static String filesText(int many) {
        StringBuilder text = new StringBuilder("cycle 2;tier a 99 9 1 0 0;tier b 99 1 1 0 0;");
        for (int i = 0; i < many; i++) {
            text.append("file ").append((char) ('a' + i)).append(" 1 on a;");
        }
        return text.toString();
    }

    static SeasonTiers withFiles(int many) {
        return Check.of(filesText(many));
    }

    /** The bar stands where the error is and is no part of the text. */
    static void error(int code, String text) {
        int position = text.indexOf('|');
        SeasonTiers x = new SeasonTiers();
        is(Check.load(x, text.substring(0, position) + text.substring(position + 1)), code);
        is(x.errorPosition(), position);
        is(Check.written(x), "a: b:");
    }

    static void syntax(String text) {
        error(SeasonTiers.SYNTAX_ERROR, text);
    }

    static void value(String text) {
        error(SeasonTiers.VALUE_ERROR, text);
    }

    static void loads(String text, String written) {
        SeasonTiers x = new SeasonTiers();
        int files = Check.load(x, text);
        is(files, x.count(3));
        is(x.errorPosition(), NONE);
        is(Check.written(x), written);
    }

    static void close(SeasonTiers x, int times) {
        for (int i = 0; i < times; i++) {
            x.close();
        }
    }

    /** A store of this head with one file of size 1, used so in the periods before the one at hand. */
    static SeasonTiers used(String head, int... uses) {
        SeasonTiers x = Check.of(head + ";tier a 10 1 1 1 1;tier b 10 1 1 1 1;file x 1 on a;");
        use(x, uses);
        return x;
    }

    static void use(SeasonTiers x, int... uses) {
        for (int times : uses) {
            if (times > 0) {
                x.use(0, times);
            }
            x.close();
        }
    }

    /** The steps of a plan: 0>1 for a move of file 0 to tier 1, 0x2>1 for its exchange with file 2. */
    static String plan(SeasonTiers x, int periods) {
        StringBuilder text = new StringBuilder();
        for (int i = 0; i < x.steps(periods); i++) {
            int other = x.step(periods, i, 1);
            text.append(i == 0 ? "" : " ").append(x.step(periods, i, 0)).append(other == NONE ? "" : "x" + other);
            text.append('>').append(x.step(periods, i, 2));
        }
        return text.toString();
    }

    static void planIs(SeasonTiers x, int periods, String steps, long saving) {
        is(plan(x, periods), steps);
        is(x.saving(periods), saving);
    }
}
