import java.nio.charset.StandardCharsets;

/** What the tests share: comparing answers, feeding texts, and ending with an exit code. */
final class Check {
    static final Class<?> INDEX = IndexOutOfBoundsException.class;
    static final Class<?> ARGUMENT = IllegalArgumentException.class;
    static final Class<?> STATE = IllegalStateException.class;

    private static int done = 0;
    private static int wrong = 0;

    private Check() {
    }

    interface Call {
        Object make();
    }

    static void same(String what, long got, long due) {
        note(got == due, what, Long.toString(got), Long.toString(due));
    }

    static void same(String what, double got, double due) {
        note(Double.compare(got, due) == 0, what, Double.toString(got), Double.toString(due));
    }

    static void same(String what, String got, String due) {
        note(got.equals(due), what, got, due);
    }

    /** The exception's class must be the very one: a machine's exception would be a class below it. */
    static void refused(String what, Class<?> due, Call call) {
        String got;
        try {
            got = "answer " + call.make();
        } catch (RuntimeException e) {
            got = e.getClass().getName();
        }
        note(got.equals(due.getName()), what, got, due.getName());
    }

    private static void note(boolean right, String what, String got, String due) {
        done++;
        if (!right) {
            wrong++;
            if (wrong <= 40) {
                System.out.println(what + " answered " + got + ", due is " + due);
            }
        }
    }

    static boolean allRight() {
        return wrong == 0;
    }

    static void end() {
        System.out.println(done + " answers, " + wrong + " wrong");
        if (wrong > 0) {
            System.exit(1);
        }
    }

    /** Appends a text by calls of append, 20 bytes each; answers the length told last. */
    static int feed(SeasonTiers x, String text) {
        byte[] bytes = text.getBytes(StandardCharsets.ISO_8859_1);
        int length = 0;
        for (int i = 0; i < bytes.length; i += 20) {
            length = x.append(four(bytes, i), four(bytes, i + 4), four(bytes, i + 8),
                    four(bytes, i + 12), four(bytes, i + 16));
        }
        return length;
    }

    static int four(byte[] bytes, int start) {
        int value = 0;
        for (int i = start; i < start + 4; i++) {
            value = (value << 8) | (i < bytes.length ? bytes[i] & 255 : 0);
        }
        return value;
    }

    static int load(SeasonTiers x, String text) {
        feed(x, text);
        return x.load();
    }

    /** A new object with this store. */
    static SeasonTiers of(String text) {
        SeasonTiers x = new SeasonTiers();
        int answer = load(x, text);
        if (answer < 0) {
            note(false, "loading '" + text + "'", answer + " at " + x.errorPosition(), "no error");
        }
        return x;
    }

    static String written(SeasonTiers x) {
        StringBuilder text = new StringBuilder();
        int length = x.writeTiers();
        for (int i = 0; i < length; i++) {
            text.append((char) x.writtenByte(i));
        }
        return text.toString();
    }

    /** All that an object tells in numbers, but for its plans and its texts. */
    static String told(SeasonTiers x) {
        StringBuilder text = new StringBuilder();
        for (int i = 0; i < 8; i++) {
            text.append(x.count(i)).append(' ');
        }
        int tiers = x.count(2);
        for (int t = 0; t < tiers; t++) {
            for (int i = 0; i < 8; i++) {
                text.append(x.tier(t, i)).append(' ');
            }
            for (int i = 0; i < 4; i++) {
                text.append(x.account(t, i)).append(' ');
            }
        }
        int files = x.count(3);
        int cycle = x.count(0);
        for (int f = 0; f < files; f++) {
            tellFile(x, f, cycle, text.append("| "));
        }
        return text.toString();
    }

    private static void tellFile(SeasonTiers x, int file, int cycle, StringBuilder text) {
        for (int i = 0; i < 10; i++) {
            text.append(x.file(file, i)).append(' ');
        }
        for (int p = 0; p < cycle; p++) {
            text.append(x.season(file, p)).append(' ');
        }
        int kept = x.file(file, 5);
        for (int k = 0; k < kept; k++) {
            text.append(x.kept(file, k)).append(' ');
        }
        text.append(x.off(file)).append(' ');
    }
}
