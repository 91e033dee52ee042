import java.math.BigInteger;
import java.util.ArrayDeque;
import java.util.ArrayList;
import java.util.Deque;
import java.util.List;
import java.util.SortedMap;
import java.util.TreeMap;

/**
 * The document once more, as plainly as the Java library allows and without regard to cost: lists,
 * maps, exact fractions and whole copies. ModelTest holds the program against it.
 */
final class Model {
    static final int NONE = -1;

    static final class Tier {
        String name;
        int[] numbers = new int[5];
        long keeping;
        long reading;
        long moving;

        Tier copy() {
            Tier t = new Tier();
            t.name = name;
            t.numbers = numbers.clone();
            t.keeping = keeping;
            t.reading = reading;
            t.moving = moving;
            return t;
        }
    }

    static final class File {
        int identity;
        String name;
        int size;
        int tier;
        int uses;
        int until;
        int scored;
        long off;
        List<Integer> kept = new ArrayList<>();
        SortedMap<Integer, Integer> seasons = new TreeMap<>();

        File copy() {
            File f = new File();
            f.identity = identity;
            f.name = name;
            f.size = size;
            f.tier = tier;
            f.uses = uses;
            f.until = until;
            f.scored = scored;
            f.off = off;
            f.kept = new ArrayList<>(kept);
            f.seasons = new TreeMap<>(seasons);
            return f;
        }

        int forecast(int phase) {
            if (seasons.containsKey(phase)) {
                return seasons.get(phase);
            }
            long sum = 0;
            for (int s : seasons.values()) {
                sum += s;
            }
            return seasons.isEmpty() ? 0 : (int) Math.floorDiv(sum, (long) seasons.size());
        }

        void learn(int phase, int u, int rate) {
            if (!seasons.containsKey(phase)) {
                seasons.put(phase, 16 * u);
            } else {
                int s = seasons.get(phase);
                BigInteger more = BigInteger.valueOf(16L * u - s).multiply(BigInteger.valueOf(rate));
                seasons.put(phase, s + more.divide(BigInteger.valueOf(8)).intValueExact());
            }
        }

        int ownCycle() {
            int best = NONE;
            long bestSum = 0;
            long bestPairs = 0;
            for (int c = 12; c >= 2; c--) {
                if (kept.size() < c + 1) {
                    continue;
                }
                long sum = 0;
                long pairs = 0;
                for (int i = 0; i < kept.size(); i++) {
                    for (int j = i + 1; j < kept.size(); j++) {
                        if (j - i == c) {
                            pairs++;
                            sum += Math.abs(kept.get(i) - kept.get(j));
                        }
                    }
                }
                BigInteger left = BigInteger.valueOf(sum).multiply(BigInteger.valueOf(bestPairs));
                BigInteger right = BigInteger.valueOf(bestSum).multiply(BigInteger.valueOf(pairs));
                if (best == NONE || left.compareTo(right) <= 0) {
                    best = c;
                    bestSum = sum;
                    bestPairs = pairs;
                }
            }
            return best;
        }
    }

    record Move(int identity, int from, int to, int out, int in) {
    }

    record Step(int file, int other, int target, long saves) {
    }

    static final class Sheet {
        int cycle;
        int rate = 4;
        int period;
        int identities;
        List<Tier> tiers = new ArrayList<>();
        List<File> files = new ArrayList<>();
        List<Move> moves = new ArrayList<>();

        Sheet copy() {
            Sheet s = new Sheet();
            s.cycle = cycle;
            s.rate = rate;
            s.period = period;
            s.identities = identities;
            for (Tier t : tiers) {
                s.tiers.add(t.copy());
            }
            for (File f : files) {
                s.files.add(f.copy());
            }
            s.moves.addAll(moves);
            return s;
        }

        int filled(int tier) {
            return files.stream().filter(f -> f.tier == tier).mapToInt(f -> f.size).sum();
        }

        boolean roomFor(int tier, int size) {
            return filled(tier) + size <= tiers.get(tier).numbers[0];
        }

        boolean pinned(File f) {
            return f.until > period;
        }

        File byIdentity(int identity) {
            for (File f : files) {
                if (f.identity == identity) {
                    return f;
                }
            }
            return null;
        }

        long cost(File f, int tier, int h) {
            long sum = 0;
            for (int i = 0; i < h; i++) {
                sum += f.forecast((period + i) % cycle);
            }
            int[] n = tiers.get(tier).numbers;
            BigInteger reading = BigInteger.valueOf(f.size).multiply(BigInteger.valueOf(n[2]))
                    .multiply(BigInteger.valueOf(sum)).shiftRight(4);
            return (long) h * f.size * n[1] + reading.longValueExact();
        }

        long saves(File f, int tier, int h) {
            long move = (long) f.size * (tiers.get(f.tier).numbers[4] + tiers.get(tier).numbers[3]);
            return cost(f, f.tier, h) - cost(f, tier, h) - move;
        }

        int carry(File f, int to) {
            int out = f.size * tiers.get(f.tier).numbers[4];
            int in = f.size * tiers.get(to).numbers[3];
            moves.add(new Move(f.identity, f.tier, to, out, in));
            if (moves.size() > 60) {
                moves.remove(0);
            }
            tiers.get(f.tier).moving += out;
            tiers.get(to).moving += in;
            f.tier = to;
            return out + in;
        }

        /** Plans by really moving the files of a copy. */
        List<Step> plan(int h, int roomier, int more) {
            Sheet paper = copy();
            if (roomier != NONE) {
                paper.tiers.get(roomier).numbers[0] += more;
            }
            List<Integer> taken = new ArrayList<>();
            List<Step> plan = new ArrayList<>();
            while (true) {
                Step best = paper.bestMove(h, taken);
                if (best == null) {
                    best = paper.bestExchange(h, taken);
                }
                if (best == null) {
                    return plan;
                }
                plan.add(best);
                File f = paper.files.get(best.file);
                int from = f.tier;
                f.tier = best.target;
                taken.add(best.file);
                if (best.other != NONE) {
                    paper.files.get(best.other).tier = from;
                    taken.add(best.other);
                }
            }
        }

        private Step bestMove(int h, List<Integer> taken) {
            Step best = null;
            for (int i = 0; i < files.size(); i++) {
                File f = files.get(i);
                for (int t = 0; t < tiers.size(); t++) {
                    if (taken.contains(i) || pinned(f) || f.tier == t || !roomFor(t, f.size)) {
                        continue;
                    }
                    long saves = saves(f, t, h);
                    if (saves > 0 && (best == null || saves > best.saves)) {
                        best = new Step(i, NONE, t, saves);
                    }
                }
            }
            return best;
        }

        private Step bestExchange(int h, List<Integer> taken) {
            Step best = null;
            for (int i = 0; i < files.size(); i++) {
                for (int j = i + 1; j < files.size(); j++) {
                    File f = files.get(i);
                    File g = files.get(j);
                    if (taken.contains(i) || taken.contains(j) || pinned(f) || pinned(g) || f.tier == g.tier) {
                        continue;
                    }
                    long saves = saves(f, g.tier, h) + saves(g, f.tier, h);
                    boolean fits = roomFor(g.tier, f.size - g.size) && roomFor(f.tier, g.size - f.size);
                    if (fits && saves > 0 && (best == null || saves > best.saves)) {
                        best = new Step(i, j, g.tier, saves);
                    }
                }
            }
            return best;
        }
    }

    private static final String LETTERS = "abcdefghijklmnopqrstuvwxyz";
    private static final String DIGITS = "0123456789";

    Sheet now;
    final Deque<Sheet> past = new ArrayDeque<>();
    final Sheet[] saved = new Sheet[2];
    final StringBuilder buffer = new StringBuilder();
    int errorAt = NONE;
    String written = "";

    Model() {
        now = new Parser("cycle 2;tier a 10 1 1 1 1;tier b 10 1 1 1 1;").text();
    }

    private static void index(boolean good) {
        if (!good) {
            throw new IndexOutOfBoundsException();
        }
    }

    private static void argument(boolean good) {
        if (!good) {
            throw new IllegalArgumentException();
        }
    }

    private static void state(boolean good) {
        if (!good) {
            throw new IllegalStateException();
        }
    }

    private File fileAt(int file) {
        index(file >= 0 && file < now.files.size());
        return now.files.get(file);
    }

    private Tier tierAt(int tier) {
        index(tier >= 0 && tier < now.tiers.size());
        return now.tiers.get(tier);
    }

    private static void periods(int h) {
        argument(h >= 1 && h <= 24);
    }

    private void change() {
        past.addLast(now);
        if (past.size() > 8) {
            past.removeFirst();
        }
        now = now.copy();
    }

    // ---- setup

    int append(int a, int b, int c, int d, int e) {
        StringBuilder more = new StringBuilder();
        for (int four : new int[] {a, b, c, d, e}) {
            for (int i = 3; i >= 0; i--) {
                int one = (four >>> (8 * i)) % 256;
                if (one != 0) {
                    more.append((char) one);
                }
            }
        }
        state(buffer.length() + more.length() <= 600);
        buffer.append(more);
        return buffer.length();
    }

    int load() {
        Parser parser = new Parser(buffer.toString());
        buffer.setLength(0);
        try {
            Sheet read = parser.text();
            change();
            now = read;
            errorAt = NONE;
            return read.files.size();
        } catch (Stop stop) {
            errorAt = stop.position;
            return stop.code;
        }
    }

    int errorPosition() {
        return errorAt;
    }

    int count(int what) {
        argument(what >= 0 && what <= 7);
        int pinned = (int) now.files.stream().filter(now::pinned).count();
        int sizes = now.files.stream().mapToInt(f -> f.size).sum();
        return new int[] {now.cycle, now.rate, now.tiers.size(), now.files.size(), now.period, pinned,
            now.moves.size(), sizes}[what];
    }

    int tier(int tier, int what) {
        Tier t = tierAt(tier);
        argument(what >= 0 && what <= 7);
        if (what < 5) {
            return t.numbers[what];
        }
        if (what == 5) {
            return now.filled(tier);
        }
        int files = 0;
        int best = NONE;
        for (int i = now.files.size() - 1; i >= 0; i--) {
            File f = now.files.get(i);
            if (f.tier == tier) {
                files++;
                int phase = now.period % now.cycle;
                if (best == NONE || f.forecast(phase) >= now.files.get(best).forecast(phase)) {
                    best = i;
                }
            }
        }
        return what == 6 ? files : best;
    }

    int file(int file, int what) {
        File f = fileAt(file);
        argument(what >= 0 && what <= 9);
        int most = NONE;
        int greatest = 0;
        int least = 0;
        for (int phase : f.seasons.keySet()) {
            int s = f.seasons.get(phase);
            if (most == NONE) {
                most = phase;
                greatest = s;
                least = s;
            }
            if (s > greatest) {
                most = phase;
                greatest = s;
            }
            least = Math.min(least, s);
        }
        return new int[] {f.size, f.tier, f.uses, f.until, now.pinned(f) ? 1 : 0, f.kept.size(), f.scored,
            f.seasons.size(), most, greatest - least}[what];
    }

    int season(int file, int phase) {
        File f = fileAt(file);
        index(phase >= 0 && phase < now.cycle);
        return f.seasons.getOrDefault(phase, NONE);
    }

    int kept(int file, int place) {
        File f = fileAt(file);
        index(place >= 0 && place < f.kept.size());
        return f.kept.get(place);
    }

    int forecast(int file, int ahead) {
        File f = fileAt(file);
        argument(ahead >= 0 && ahead <= 24);
        return f.forecast((now.period + ahead) % now.cycle);
    }

    long off(int file) {
        return fileAt(file).off;
    }

    double meanOff() {
        long sum = now.files.stream().mapToLong(f -> f.off).sum();
        long scored = now.files.stream().mapToLong(f -> f.scored).sum();
        return scored == 0 ? 0 : (double) sum / (double) scored;
    }

    int cycleOf(int file) {
        return fileAt(file).ownCycle();
    }

    int commonCycle() {
        int best = NONE;
        long most = 0;
        for (int c = 2; c <= 12; c++) {
            int cycle = c;
            long files = now.files.stream().filter(f -> f.ownCycle() == cycle).count();
            if (files > most) {
                most = files;
                best = c;
            }
        }
        return best;
    }

    long account(int tier, int what) {
        if (tier != NONE) {
            tierAt(tier);
        }
        argument(what >= 0 && what <= 3);
        long sum = 0;
        for (int i = 0; i < now.tiers.size(); i++) {
            Tier t = now.tiers.get(i);
            if (tier == NONE || tier == i) {
                sum += what == 0 ? t.keeping : what == 1 ? t.reading : what == 2 ? t.moving
                        : t.keeping + t.reading + t.moving;
            }
        }
        return sum;
    }

    float movingShare() {
        long all = account(NONE, 3);
        return all == 0 ? 0 : (float) account(NONE, 2) / (float) all;
    }

    // ---- plans

    long cost(int file, int tier, int h) {
        File f = fileAt(file);
        tierAt(tier);
        periods(h);
        return now.cost(f, tier, h);
    }

    int wish(int file, int h) {
        File f = fileAt(file);
        periods(h);
        int best = f.tier;
        for (int t = now.tiers.size() - 1; t >= 0; t--) {
            long saves = t == f.tier ? 0 : now.saves(f, t, h);
            long most = best == f.tier ? 1 : now.saves(f, best, h);
            if (saves > 0 && saves >= most) {
                best = t;
            }
        }
        return best;
    }

    int steps(int h) {
        periods(h);
        return now.plan(h, NONE, 0).size();
    }

    int step(int h, int step, int what) {
        periods(h);
        argument(what >= 0 && what <= 2);
        List<Step> plan = now.plan(h, NONE, 0);
        index(step >= 0 && step < plan.size());
        Step s = plan.get(step);
        return what == 0 ? s.file : what == 1 ? s.other : s.target;
    }

    long saving(int h) {
        periods(h);
        return now.plan(h, NONE, 0).stream().mapToLong(s -> s.saves).sum();
    }

    long withRoom(int tier, int more, int h) {
        tierAt(tier);
        argument(more >= 0 && more <= 99999);
        periods(h);
        return now.plan(h, tier, more).stream().mapToLong(s -> s.saves).sum() - saving(h);
    }

    // ---- changes

    int add(int size, int tier) {
        argument(size >= 1 && size <= 999);
        tierAt(tier);
        if (now.files.size() == 20) {
            return -11;
        }
        if (!now.roomFor(tier, size)) {
            return -15;
        }
        change();
        File f = new File();
        f.identity = now.identities++;
        f.name = "-";
        f.size = size;
        f.tier = tier;
        now.files.add(f);
        return now.files.size() - 1;
    }

    int drop(int file) {
        int gone = fileAt(file).identity;
        change();
        now.files.remove(file);
        now.moves.removeIf(m -> m.identity == gone);
        return now.files.size();
    }

    int use(int file, int times) {
        File f = fileAt(file);
        argument(times >= 1 && times <= 9999);
        if (f.uses + times > 9999) {
            return -18;
        }
        change();
        return now.files.get(file).uses += times;
    }

    long close() {
        if (now.period == 9999) {
            return -17;
        }
        change();
        long sum = 0;
        int phase = now.period % now.cycle;
        for (File f : now.files) {
            Tier t = now.tiers.get(f.tier);
            if (!f.seasons.isEmpty()) {
                f.scored++;
                f.off += Math.abs(16L * f.uses - f.forecast(phase));
            }
            long keeping = (long) f.size * t.numbers[1];
            long reading = (long) f.size * f.uses * t.numbers[2];
            t.keeping += keeping;
            t.reading += reading;
            sum += keeping + reading;
            f.learn(phase, f.uses, now.rate);
            f.kept.add(f.uses);
            if (f.kept.size() > 24) {
                f.kept.remove(0);
            }
            f.uses = 0;
        }
        now.period++;
        now.moves.clear();
        return sum;
    }

    int move(int file, int tier) {
        File f = fileAt(file);
        tierAt(tier);
        if (now.pinned(f)) {
            return -13;
        }
        if (f.tier == tier) {
            return -14;
        }
        if (!now.roomFor(tier, f.size)) {
            return -15;
        }
        change();
        return now.carry(now.files.get(file), tier);
    }

    int unmove() {
        if (now.moves.isEmpty()) {
            return -16;
        }
        Move m = now.moves.get(now.moves.size() - 1);
        if (!now.roomFor(m.from, now.byIdentity(m.identity).size)) {
            return -15;
        }
        change();
        File f = now.byIdentity(m.identity);
        f.tier = m.from;
        now.tiers.get(m.from).moving -= m.out;
        now.tiers.get(m.to).moving -= m.in;
        now.moves.remove(now.moves.size() - 1);
        return now.files.indexOf(f);
    }

    int pin(int file, int until) {
        int before = fileAt(file).until;
        argument(until >= 0 && until <= 9999);
        change();
        now.files.get(file).until = until;
        return before;
    }

    int act(int h) {
        periods(h);
        List<Step> plan = now.plan(h, NONE, 0);
        change();
        int moved = 0;
        for (Step s : plan) {
            int from = now.files.get(s.file).tier;
            now.carry(now.files.get(s.file), s.target);
            moved++;
            if (s.other != NONE) {
                now.carry(now.files.get(s.other), from);
                moved++;
            }
        }
        return moved;
    }

    int learn(int cycle, int rate) {
        argument(cycle >= 2 && cycle <= 12);
        argument(rate >= 1 && rate <= 8);
        int before = now.cycle;
        change();
        now.cycle = cycle;
        now.rate = rate;
        for (File f : now.files) {
            f.seasons.clear();
            for (int i = 0; i < f.kept.size(); i++) {
                f.learn((now.period - f.kept.size() + i) % cycle, f.kept.get(i), rate);
            }
        }
        return before;
    }

    int setTier(int tier, int what, int value) {
        tierAt(tier);
        argument(what >= 0 && what <= 4);
        argument(what == 0 ? value >= 1 && value <= 99999 : value >= 0 && value <= 99);
        if (what == 0 && now.filled(tier) > value) {
            return -15;
        }
        change();
        int before = now.tiers.get(tier).numbers[what];
        now.tiers.get(tier).numbers[what] = value;
        return before;
    }

    int undo() {
        state(!past.isEmpty());
        now = past.removeLast();
        return past.size();
    }

    void save(int slot) {
        index(slot == 0 || slot == 1);
        saved[slot] = now.copy();
    }

    int restore(int slot) {
        index(slot == 0 || slot == 1);
        state(saved[slot] != null);
        change();
        now = saved[slot].copy();
        return now.period;
    }

    // ---- texts

    int writeTiers() {
        List<String> parts = new ArrayList<>();
        for (int i = 0; i < now.tiers.size(); i++) {
            int tier = i;
            List<String> names = now.files.stream().filter(f -> f.tier == tier).map(f -> f.name).toList();
            parts.add(now.tiers.get(i).name + ":" + String.join(",", names));
        }
        written = String.join(" ", parts);
        return written.length();
    }

    int writtenByte(int at) {
        index(at >= 0 && at < written.length());
        return written.charAt(at);
    }

    static final class Stop extends RuntimeException {
        private static final long serialVersionUID = 1;
        final int code;
        final int position;

        Stop(int code, int position) {
            this.code = code;
            this.position = position;
        }
    }

    /** Cuts the whole text into tokens first; what is no token becomes one of a single byte. */
    static final class Parser {
        private final List<String> tokens = new ArrayList<>();
        private final List<Integer> places = new ArrayList<>();
        private int next = 0;
        private int place = 0;

        Parser(String text) {
            int i = 0;
            while (i < text.length()) {
                int start = i;
                while (i < text.length() && LETTERS.indexOf(text.charAt(i)) >= 0) {
                    i++;
                }
                while (i == start || i < text.length() && DIGITS.indexOf(text.charAt(start)) >= 0
                        && DIGITS.indexOf(text.charAt(i)) >= 0) {
                    i++;
                }
                if (text.charAt(start) != ' ') {
                    tokens.add(text.substring(start, i));
                    places.add(start);
                }
            }
            tokens.add("");
            places.add(text.length());
        }

        private static void stop(boolean wrong, int code, int position) {
            if (wrong) {
                throw new Stop(code, position);
            }
        }

        private String peek() {
            return tokens.get(next);
        }

        private int here() {
            return places.get(next);
        }

        private void fixed(String due) {
            stop(!peek().equals(due), -2, here());
            next++;
        }

        private int number(int least, int greatest) {
            stop(!peek().matches("[0-9]+"), -2, here());
            BigInteger value = new BigInteger(peek());
            stop(value.compareTo(BigInteger.valueOf(least)) < 0
                    || value.compareTo(BigInteger.valueOf(greatest)) > 0, -3, here());
            next++;
            return value.intValueExact();
        }

        private String name() {
            stop(!peek().matches("[a-z]{1,8}"), -2, here());
            place = here();
            return tokens.get(next++);
        }

        Sheet text() {
            Sheet s = new Sheet();
            fixed("cycle");
            s.cycle = number(2, 12);
            if (peek().equals("rate")) {
                next++;
                s.rate = number(1, 8);
            }
            fixed(";");
            tier(s);
            tier(s);
            while (peek().equals("tier")) {
                stop(s.tiers.size() == 4, -7, here());
                tier(s);
            }
            while (peek().equals("file")) {
                stop(s.files.size() == 20, -7, here());
                file(s);
            }
            fixed("");
            return s;
        }

        private void tier(Sheet s) {
            fixed("tier");
            Tier t = new Tier();
            t.name = name();
            stop(s.tiers.stream().anyMatch(o -> o.name.equals(t.name)), -5, place);
            t.numbers[0] = number(1, 99999);
            for (int i = 1; i < 5; i++) {
                t.numbers[i] = number(0, 99);
            }
            fixed(";");
            s.tiers.add(t);
        }

        private void file(Sheet s) {
            fixed("file");
            File f = new File();
            f.name = name();
            stop(s.files.stream().anyMatch(o -> o.name.equals(f.name)), -5, place);
            f.size = number(1, 999);
            fixed("on");
            String on = name();
            f.tier = NONE;
            for (int i = 0; i < s.tiers.size(); i++) {
                if (s.tiers.get(i).name.equals(on)) {
                    f.tier = i;
                }
            }
            stop(f.tier == NONE, -4, place);
            stop(!s.roomFor(f.tier, f.size), -6, place);
            if (peek().equals("pin")) {
                next++;
                f.until = number(0, 9999);
            }
            fixed(";");
            f.identity = s.identities++;
            s.files.add(f);
        }
    }
}
