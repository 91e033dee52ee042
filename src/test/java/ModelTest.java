import java.util.Random;

/**
 * Random runs of 512 calls each, every answer and every exception held against Model. The seeds are
 * fixed, so that each run of this test makes the same calls.
 */
public final class ModelTest {
    private static final int RUNS = 1500;
    private static final int CALLS = 512;
    private static final int[] ODD = {Integer.MIN_VALUE, -12, -2, -1, 100, 1000, 10000, 99999, 100000, Integer.MAX_VALUE};

    private final Random random;
    private final SeasonTiers real = new SeasonTiers();
    private final Model model = new Model();
    private final int style;
    private int calls = 0;

    private ModelTest(int seed) {
        random = new Random(seed);
        style = seed % 5;
    }

    public static void main(String[] args) {
        int runs = args.length > 0 ? Integer.parseInt(args[0]) : RUNS;
        for (int seed = 0; seed < runs && Check.allRight(); seed++) {
            new ModelTest(seed).run(seed);
        }
        Check.end();
    }

    private void run(int seed) {
        if (random.nextInt(8) > 0) {
            feed(store(), seed);
        }
        while (calls < CALLS && Check.allRight()) {
            if (random.nextInt(60) == 0) {
                feed(random.nextBoolean() ? store() : broken(store()), seed);
            } else {
                oneCall(seed);
            }
        }
    }

    private void feed(String text, int seed) {
        for (int i = 0; i < text.length(); i += 20) {
            byte[] bytes = new byte[20];
            for (int k = 0; k < 20 && i + k < text.length(); k++) {
                bytes[k] = (byte) text.charAt(i + k);
            }
            call(seed, "append", Check.four(bytes, 0), Check.four(bytes, 4), Check.four(bytes, 8),
                    Check.four(bytes, 12), Check.four(bytes, 16));
        }
        call(seed, "load");
        call(seed, "errorPosition");
        for (int what = 0; what < 8; what++) {
            call(seed, "count", what);
        }
    }

    private void oneCall(int seed) {
        int kind = random.nextInt(100);
        if (kind < 45) {
            look(seed);
        } else if (kind < 60) {
            plan(seed);
        } else {
            change(seed);
        }
    }

    private void look(int seed) {
        switch (random.nextInt(14)) {
            case 0 -> call(seed, "count", what(7));
            case 1 -> call(seed, "tier", tier(), what(7));
            case 2, 3 -> call(seed, "file", file(), what(9));
            case 4 -> call(seed, "season", file(), odd(random.nextInt(13)));
            case 5 -> call(seed, "kept", file(), odd(random.nextInt(25)));
            case 6 -> call(seed, "forecast", file(), odd(random.nextInt(26)));
            case 7 -> call(seed, "off", file());
            case 8 -> call(seed, "meanOff");
            case 9 -> call(seed, "cycleOf", file());
            case 10 -> call(seed, "commonCycle");
            case 11 -> call(seed, "account", random.nextInt(3) == 0 ? -1 : tier(), what(3));
            case 12 -> call(seed, "movingShare");
            default -> written(seed);
        }
    }

    private void written(int seed) {
        if (random.nextBoolean()) {
            call(seed, "writeTiers");
        }
        for (int i = 0; i < 4; i++) {
            call(seed, "writtenByte", odd(random.nextInt(60)));
        }
    }

    private void plan(int seed) {
        switch (random.nextInt(6)) {
            case 0 -> call(seed, "cost", file(), tier(), periods());
            case 1 -> call(seed, "wish", file(), periods());
            case 2 -> call(seed, "steps", periods());
            case 3 -> call(seed, "step", periods(), odd(random.nextInt(8)), what(2));
            case 4 -> call(seed, "saving", periods());
            default -> call(seed, "withRoom", tier(), odd(random.nextInt(60)), periods());
        }
    }

    private void change(int seed) {
        int[] closes = {10, 30, 4, 12, 20};
        int kind = random.nextInt(70 + closes[style]);
        if (kind >= 70) {
            call(seed, "close");
        } else if (kind < 25) {
            call(seed, "use", file(), odd(random.nextInt(style == 3 ? 9999 : 30)));
        } else if (kind < 30) {
            call(seed, "move", file(), tier());
        } else if (kind < 36) {
            call(seed, "act", periods());
        } else if (kind < 42) {
            call(seed, "unmove");
        } else if (kind < 45) {
            call(seed, "pin", file(), odd(random.nextInt(3) == 0 ? random.nextInt(40) : 0));
        } else if (kind < 48) {
            call(seed, "add", odd(random.nextInt(40)), tier());
        } else if (kind < 49) {
            call(seed, "drop", file());
        } else if (kind < 52) {
            call(seed, "learn", odd(1 + random.nextInt(12)), odd(random.nextInt(9)));
        } else if (kind < 57) {
            int what = what(4);
            call(seed, "setTier", tier(), what, odd(random.nextInt(what == 0 ? 300 : 101)));
        } else if (kind < 61) {
            call(seed, "undo");
        } else if (kind < 63) {
            call(seed, "save", odd(random.nextInt(2)));
        } else if (kind < 65) {
            call(seed, "restore", odd(random.nextInt(2)));
        } else if (style == 2) {
            shuttle(seed);
        }
    }

    /** Many moves of one period: only with them the oldest ones are forgotten. */
    private void shuttle(int seed) {
        int file = file();
        for (int i = 0; i < 30; i++) {
            call(seed, "move", file, i % 2);
        }
        call(seed, "count", 6);
    }

    private int odd(int value) {
        return random.nextInt(40) == 0 ? ODD[random.nextInt(ODD.length)] : value;
    }

    private int what(int most) {
        return random.nextInt(30) == 0 ? odd(most + 1) : random.nextInt(most + 1);
    }

    private int tier() {
        return odd(random.nextInt(model.now.tiers.size() + (random.nextInt(10) == 0 ? 1 : 0)));
    }

    private int file() {
        return odd(random.nextInt(model.now.files.size() + (random.nextInt(10) == 0 ? 1 : 0) + 1) - (random.nextInt(8) == 0 ? 0 : 1));
    }

    private int periods() {
        return odd(1 + random.nextInt(random.nextInt(10) == 0 ? 25 : 12));
    }

    private String store() {
        StringBuilder text = new StringBuilder("cycle ").append(2 + random.nextInt(random.nextBoolean() ? 3 : 11));
        if (random.nextBoolean()) {
            text.append(" rate ").append(1 + random.nextInt(8));
        }
        text.append(';');
        int tiers = 2 + random.nextInt(3);
        for (int i = 0; i < tiers; i++) {
            text.append("tier ").append((char) ('p' + i)).append(' ').append(style == 4 ? 99999 : 20 + random.nextInt(120));
            text.append(' ').append(random.nextInt(style == 3 ? 100 : 10)).append(' ').append(random.nextInt(4 + 8 * style));
            text.append(' ').append(random.nextInt(4)).append(' ').append(random.nextInt(style == 1 ? 2 : 8)).append(';');
        }
        int files = random.nextInt(style == 4 ? 21 : 14);
        for (int i = 0; i < files; i++) {
            text.append("file ").append(random.nextInt(9) == 0 ? "file" : "").append((char) ('a' + i)).append(' ');
            text.append(1 + random.nextInt(style == 4 ? 999 : 30)).append(" on ").append((char) ('p' + random.nextInt(tiers)));
            text.append(random.nextInt(7) == 0 ? " pin " + random.nextInt(12) : "").append(';');
        }
        return text.toString();
    }

    /** A text with some small fault, which may be none. */
    private String broken(String text) {
        String[] bits = {"", " ", "  ", ";", "tier", "file", "on", "pin", "rate", "a", "q", "1", "0", "99", "00", "x9", "!",
            "{", "`", "/", ":", "A", String.valueOf((char) 200), "abcdefgh", "abcdefghi", "100000", "tier z 1 1 1 1 1;", "file z 1 on q;"};
        StringBuilder t = new StringBuilder(text);
        for (int i = random.nextInt(3); i >= 0; i--) {
            int at = random.nextInt(t.length() + 1);
            int gone = Math.min(t.length() - at, random.nextInt(3) == 0 ? random.nextInt(5) : 0);
            t.delete(at, at + gone);
            t.insert(at, bits[random.nextInt(bits.length)]);
            if (random.nextInt(8) == 0) {
                t.setLength(random.nextInt(t.length() + 1));
            }
        }
        return t.toString();
    }

    private void call(int seed, String name, int... a) {
        if (calls >= CALLS) {
            return;
        }
        calls++;
        String got = answer(() -> onReal(name, a));
        String due = answer(() -> onModel(name, a));
        Check.same("seed " + seed + " call " + calls + " " + name + java.util.Arrays.toString(a), got, due);
    }

    private static String answer(Check.Call call) {
        try {
            return String.valueOf(call.make());
        } catch (RuntimeException e) {
            return e.getClass().getName();
        }
    }

    private Object onReal(String name, int[] a) {
        switch (name) {
            case "append": return real.append(a[0], a[1], a[2], a[3], a[4]);
            case "load": return real.load();
            case "errorPosition": return real.errorPosition();
            case "count": return real.count(a[0]);
            case "tier": return real.tier(a[0], a[1]);
            case "file": return real.file(a[0], a[1]);
            case "season": return real.season(a[0], a[1]);
            case "kept": return real.kept(a[0], a[1]);
            case "forecast": return real.forecast(a[0], a[1]);
            case "off": return real.off(a[0]);
            case "meanOff": return real.meanOff();
            case "cycleOf": return real.cycleOf(a[0]);
            case "commonCycle": return real.commonCycle();
            case "account": return real.account(a[0], a[1]);
            case "movingShare": return real.movingShare();
            case "cost": return real.cost(a[0], a[1], a[2]);
            case "wish": return real.wish(a[0], a[1]);
            case "steps": return real.steps(a[0]);
            case "step": return real.step(a[0], a[1], a[2]);
            case "saving": return real.saving(a[0]);
            case "withRoom": return real.withRoom(a[0], a[1], a[2]);
            case "add": return real.add(a[0], a[1]);
            case "drop": return real.drop(a[0]);
            case "use": return real.use(a[0], a[1]);
            case "close": return real.close();
            case "move": return real.move(a[0], a[1]);
            case "unmove": return real.unmove();
            case "pin": return real.pin(a[0], a[1]);
            case "act": return real.act(a[0]);
            case "learn": return real.learn(a[0], a[1]);
            case "setTier": return real.setTier(a[0], a[1], a[2]);
            case "undo": return real.undo();
            case "save": real.save(a[0]); return "nothing";
            case "restore": return real.restore(a[0]);
            case "writeTiers": return real.writeTiers();
            case "writtenByte": return real.writtenByte(a[0]);
            default: throw new AssertionError(name);
        }
    }

    private Object onModel(String name, int[] a) {
        switch (name) {
            case "append": return model.append(a[0], a[1], a[2], a[3], a[4]);
            case "load": return model.load();
            case "errorPosition": return model.errorPosition();
            case "count": return model.count(a[0]);
            case "tier": return model.tier(a[0], a[1]);
            case "file": return model.file(a[0], a[1]);
            case "season": return model.season(a[0], a[1]);
            case "kept": return model.kept(a[0], a[1]);
            case "forecast": return model.forecast(a[0], a[1]);
            case "off": return model.off(a[0]);
            case "meanOff": return model.meanOff();
            case "cycleOf": return model.cycleOf(a[0]);
            case "commonCycle": return model.commonCycle();
            case "account": return model.account(a[0], a[1]);
            case "movingShare": return model.movingShare();
            case "cost": return model.cost(a[0], a[1], a[2]);
            case "wish": return model.wish(a[0], a[1]);
            case "steps": return model.steps(a[0]);
            case "step": return model.step(a[0], a[1], a[2]);
            case "saving": return model.saving(a[0]);
            case "withRoom": return model.withRoom(a[0], a[1], a[2]);
            case "add": return model.add(a[0], a[1]);
            case "drop": return model.drop(a[0]);
            case "use": return model.use(a[0], a[1]);
            case "close": return model.close();
            case "move": return model.move(a[0], a[1]);
            case "unmove": return model.unmove();
            case "pin": return model.pin(a[0], a[1]);
            case "act": return model.act(a[0]);
            case "learn": return model.learn(a[0], a[1]);
            case "setTier": return model.setTier(a[0], a[1], a[2]);
            case "undo": return model.undo();
            case "save": model.save(a[0]); return "nothing";
            case "restore": return model.restore(a[0]);
            case "writeTiers": return model.writeTiers();
            case "writtenByte": return model.writtenByte(a[0]);
            default: throw new AssertionError(name);
        }
    }
}
