/**
 * Tiers of storage between which files are moved by the seasons of their use.
 *
 * <p>All that a call can change, but for texts, is held by one Store; history and saves are copies of
 * it. Everything is made in the constructor and used again, so that a call makes nothing but the
 * exception that it may throw.
 */
public final class SeasonTiers {
    public static final int NONE = -1;
    public static final int SYNTAX_ERROR = -2;
    public static final int VALUE_ERROR = -3;
    public static final int UNKNOWN = -4;
    public static final int TWICE = -5;
    public static final int NO_ROOM = -6;
    public static final int TOO_MANY = -7;

    private static final int REFUSED_FULL = -11;
    private static final int REFUSED_PINNED = -13;
    private static final int REFUSED_SAME_TIER = -14;
    private static final int REFUSED_NO_SPACE = -15;
    private static final int REFUSED_NO_MOVE = -16;
    private static final int REFUSED_LAST_PERIOD = -17;
    private static final int REFUSED_TOO_OFTEN = -18;

    private static final int MIN_TIERS = 2;
    private static final int MAX_TIERS = 4;
    private static final int MAX_FILES = 20;
    private static final int MAX_ROOM = 99999;
    private static final int MAX_RATE_OF_COST = 99;
    private static final int MAX_SIZE = 999;
    private static final int MIN_CYCLE = 2;
    private static final int MAX_CYCLE = 12;
    private static final int MAX_RATE = 8;
    private static final int DEFAULT_RATE = 4;
    private static final int MAX_PERIOD = 9999;
    private static final int MAX_USES = 9999;
    private static final int MAX_KEPT = 24;
    private static final int MAX_AHEAD = 24;
    private static final int MAX_MOVES = 60;
    private static final int MAX_CHANGES = 8;
    private static final int SLOTS = 2;
    private static final int MAX_TEXT = 600;
    private static final int MAX_NAME = 8;
    private static final int MAX_WRITTEN = 256;

    /** A use is told in so many parts. */
    private static final int PARTS = 16;

    private static final int ROOM = 0;
    private static final int KEEP_RATE = 1;
    private static final int READ_RATE = 2;
    private static final int IN_RATE = 3;
    private static final int OUT_RATE = 4;
    private static final int TIER_NUMBERS = 5;

    private static final int KEEPING = 0;
    private static final int READING = 1;
    private static final int MOVING = 2;
    private static final int ALL_COSTS = 3;

    /** The room of the tiers that a new object has; each of their costs is FIRST_COST. */
    private static final int FIRST_ROOM = 10;
    private static final int FIRST_COST = 1;

    private final Reader reader = new Reader();
    private final Writer writer = new Writer();
    private final Planner planner = new Planner();
    private final History history = new History();
    private final Store now = new Store();
    private final Store draft = new Store();
    private final Store[] slots = new Store[SLOTS];
    private final boolean[] slotFilled = new boolean[SLOTS];
    private final int[] filesByCycle = new int[MAX_CYCLE + 1];

    public SeasonTiers() {
        for (int i = 0; i < SLOTS; i++) {
            slots[i] = new Store();
        }
        now.startAsNew();
    }

    // ---- setup

    public int append(int a, int b, int c, int d, int e) throws IllegalStateException {
        int more = bytesIn(a) + bytesIn(b) + bytesIn(c) + bytesIn(d) + bytesIn(e);
        if (reader.length + more > MAX_TEXT) {
            throw new IllegalStateException();
        }
        reader.putBytesOf(a);
        reader.putBytesOf(b);
        reader.putBytesOf(c);
        reader.putBytesOf(d);
        reader.putBytesOf(e);
        return reader.length;
    }

    public int load() {
        int answer = reader.readStore(draft);
        if (answer >= 0) {
            history.remember(now);
            now.copyFrom(draft);
        }
        return answer;
    }

    public int errorPosition() {
        return reader.errorAt;
    }

    public int count(int what) throws IllegalArgumentException {
        switch (what) {
            case 0:
                return now.cycle;
            case 1:
                return now.rate;
            case 2:
                return now.tierCount;
            case 3:
                return now.fileCount;
            case 4:
                return now.period;
            case 5:
                return now.pinnedFiles();
            case 6:
                return now.moves.size;
            case 7:
                return now.sizeOfAll();
            default:
                throw new IllegalArgumentException();
        }
    }

    public int tier(int tier, int what) throws IndexOutOfBoundsException, IllegalArgumentException {
        requireTier(tier);
        if (what >= 0 && what < TIER_NUMBERS) {
            return now.tiers[tier].numbers[what];
        }
        switch (what) {
            case 5:
                return now.sizeOn(tier);
            case 6:
                return now.filesOn(tier);
            case 7:
                return now.mostUsedOn(tier);
            default:
                throw new IllegalArgumentException();
        }
    }

    public int file(int file, int what) throws IndexOutOfBoundsException, IllegalArgumentException {
        requireFile(file);
        FileRow row = now.files[file];
        switch (what) {
            case 0:
                return row.size;
            case 1:
                return row.home;
            case 2:
                return row.uses;
            case 3:
                return row.pinnedUntil;
            case 4:
                return row.isPinnedIn(now.period) ? 1 : 0;
            case 5:
                return row.keptCount;
            case 6:
                return row.scored;
            case 7:
                return row.knownSeasons();
            case 8:
                return row.busiestPhase();
            case 9:
                return row.seasonSpread();
            default:
                throw new IllegalArgumentException();
        }
    }

    public int season(int file, int phase) throws IndexOutOfBoundsException {
        requireFile(file);
        if (phase < 0 || phase >= now.cycle) {
            throw new IndexOutOfBoundsException();
        }
        return now.files[file].seasons[phase];
    }

    public int kept(int file, int place) throws IndexOutOfBoundsException {
        requireFile(file);
        if (place < 0 || place >= now.files[file].keptCount) {
            throw new IndexOutOfBoundsException();
        }
        return now.files[file].keptUses[place];
    }

    public int forecast(int file, int ahead) throws IndexOutOfBoundsException, IllegalArgumentException {
        requireFile(file);
        if (ahead < 0 || ahead > MAX_AHEAD) {
            throw new IllegalArgumentException();
        }
        return now.files[file].forecastFor(now.phaseAhead(ahead));
    }

    public long off(int file) throws IndexOutOfBoundsException {
        requireFile(file);
        return now.files[file].offSum;
    }

    public double meanOff() {
        long sum = 0;
        int scored = 0;
        for (int i = 0; i < now.fileCount; i++) {
            sum += now.files[i].offSum;
            scored += now.files[i].scored;
        }
        return scored == 0 ? 0.0 : (double) sum / scored;
    }

    public int cycleOf(int file) throws IndexOutOfBoundsException {
        requireFile(file);
        return now.files[file].ownCycle();
    }

    public int commonCycle() {
        for (int c = 0; c <= MAX_CYCLE; c++) {
            filesByCycle[c] = 0;
        }
        for (int i = 0; i < now.fileCount; i++) {
            int own = now.files[i].ownCycle();
            if (own != NONE) {
                filesByCycle[own]++;
            }
        }
        int best = NONE;
        int most = 0;
        for (int c = MIN_CYCLE; c <= MAX_CYCLE; c++) {
            if (filesByCycle[c] > most) {
                most = filesByCycle[c];
                best = c;
            }
        }
        return best;
    }

    public long account(int tier, int what) throws IndexOutOfBoundsException, IllegalArgumentException {
        if (tier != NONE) {
            requireTier(tier);
        }
        requireWithin(what, KEEPING, ALL_COSTS);
        return tier == NONE ? now.paidOnAll(what) : now.tiers[tier].paidFor(what);
    }

    public float movingShare() {
        long all = now.paidOnAll(ALL_COSTS);
        return all == 0 ? 0.0f : (float) now.paidOnAll(MOVING) / (float) all;
    }

    // ---- plans

    public long cost(int file, int tier, int periods) throws IndexOutOfBoundsException, IllegalArgumentException {
        requireFile(file);
        requireTier(tier);
        requirePeriods(periods);
        return now.costOn(file, tier, periods, now.forecastSum(file, periods));
    }

    public int wish(int file, int periods) throws IndexOutOfBoundsException, IllegalArgumentException {
        requireFile(file);
        requirePeriods(periods);
        return planner.bestTier(now, file, periods);
    }

    public int steps(int periods) throws IllegalArgumentException {
        requirePeriods(periods);
        planner.makePlan(now, periods);
        return planner.stepCount;
    }

    public int step(int periods, int step, int what) throws IllegalArgumentException, IndexOutOfBoundsException {
        requirePeriods(periods);
        requireWithin(what, 0, 2);
        planner.makePlan(now, periods);
        if (step < 0 || step >= planner.stepCount) {
            throw new IndexOutOfBoundsException();
        }
        switch (what) {
            case 0:
                return planner.firstFiles[step];
            case 1:
                return planner.otherFiles[step];
            default:
                return planner.targets[step];
        }
    }

    public long saving(int periods) throws IllegalArgumentException {
        requirePeriods(periods);
        planner.makePlan(now, periods);
        return planner.saved;
    }

    public long withRoom(int tier, int more, int periods) throws IndexOutOfBoundsException, IllegalArgumentException {
        requireTier(tier);
        requireWithin(more, 0, MAX_ROOM);
        requirePeriods(periods);
        planner.makePlan(now, periods);
        long before = planner.saved;
        planner.planAgain(now, tier, more);
        return planner.saved - before;
    }

    // ---- changes

    public int add(int size, int tier) throws IllegalArgumentException, IndexOutOfBoundsException {
        requireWithin(size, 1, MAX_SIZE);
        requireTier(tier);
        if (now.fileCount >= MAX_FILES) {
            return REFUSED_FULL;
        }
        if (!now.hasRoomFor(tier, size)) {
            return REFUSED_NO_SPACE;
        }
        history.remember(now);
        now.putFile(0, size, tier, 0);
        return now.fileCount - 1;
    }

    public int drop(int file) throws IndexOutOfBoundsException {
        requireFile(file);
        history.remember(now);
        now.removeFile(file);
        return now.fileCount;
    }

    public int use(int file, int times) throws IndexOutOfBoundsException, IllegalArgumentException {
        requireFile(file);
        requireWithin(times, 1, MAX_USES);
        FileRow row = now.files[file];
        if (row.uses + times > MAX_USES) {
            return REFUSED_TOO_OFTEN;
        }
        history.remember(now);
        row.uses += times;
        return row.uses;
    }

    public long close() {
        if (now.period >= MAX_PERIOD) {
            return REFUSED_LAST_PERIOD;
        }
        history.remember(now);
        return now.endPeriod();
    }

    public int move(int file, int tier) throws IndexOutOfBoundsException {
        requireFile(file);
        requireTier(tier);
        FileRow row = now.files[file];
        if (row.isPinnedIn(now.period)) {
            return REFUSED_PINNED;
        }
        if (row.home == tier) {
            return REFUSED_SAME_TIER;
        }
        if (!now.hasRoomFor(tier, row.size)) {
            return REFUSED_NO_SPACE;
        }
        history.remember(now);
        return now.carry(file, tier);
    }

    public int unmove() {
        if (now.moves.size == 0) {
            return REFUSED_NO_MOVE;
        }
        int file = now.moves.latest(Moves.FILE);
        if (!now.hasRoomFor(now.moves.latest(Moves.FROM), now.files[file].size)) {
            return REFUSED_NO_SPACE;
        }
        history.remember(now);
        now.carryBack();
        return file;
    }

    public int pin(int file, int until) throws IndexOutOfBoundsException, IllegalArgumentException {
        requireFile(file);
        requireWithin(until, 0, MAX_PERIOD);
        int before = now.files[file].pinnedUntil;
        history.remember(now);
        now.files[file].pinnedUntil = until;
        return before;
    }

    public int act(int periods) throws IllegalArgumentException {
        requirePeriods(periods);
        planner.makePlan(now, periods);
        history.remember(now);
        return planner.carryOut(now);
    }

    public int learn(int cycle, int rate) throws IllegalArgumentException {
        requireWithin(cycle, MIN_CYCLE, MAX_CYCLE);
        requireWithin(rate, 1, MAX_RATE);
        int before = now.cycle;
        history.remember(now);
        now.learnAgain(cycle, rate);
        return before;
    }

    public int setTier(int tier, int what, int value) throws IndexOutOfBoundsException, IllegalArgumentException {
        requireTier(tier);
        requireWithin(what, 0, TIER_NUMBERS - 1);
        requireWithin(value, leastOf(what), greatestOf(what));
        if (what == ROOM && now.sizeOn(tier) > value) {
            return REFUSED_NO_SPACE;
        }
        int before = now.tiers[tier].numbers[what];
        history.remember(now);
        now.tiers[tier].numbers[what] = value;
        return before;
    }

    public int undo() throws IllegalStateException {
        if (history.size == 0) {
            throw new IllegalStateException();
        }
        history.bringBack(now);
        return history.size;
    }

    public void save(int slot) throws IndexOutOfBoundsException {
        requireSlot(slot);
        slots[slot].copyFrom(now);
        slotFilled[slot] = true;
    }

    public int restore(int slot) throws IndexOutOfBoundsException, IllegalStateException {
        requireSlot(slot);
        if (!slotFilled[slot]) {
            throw new IllegalStateException();
        }
        history.remember(now);
        now.copyFrom(slots[slot]);
        return now.period;
    }

    // ---- texts

    public int writeTiers() {
        writer.writeStore(now);
        return writer.length;
    }

    public int writtenByte(int index) throws IndexOutOfBoundsException {
        if (index < 0 || index >= writer.length) {
            throw new IndexOutOfBoundsException();
        }
        return writer.bytes[index];
    }

    // ---- what arguments must be

    private void requireTier(int tier) {
        if (tier < 0 || tier >= now.tierCount) {
            throw new IndexOutOfBoundsException();
        }
    }

    private void requireFile(int file) {
        if (file < 0 || file >= now.fileCount) {
            throw new IndexOutOfBoundsException();
        }
    }

    private static void requireSlot(int slot) {
        if (slot < 0 || slot >= SLOTS) {
            throw new IndexOutOfBoundsException();
        }
    }

    private static void requirePeriods(int periods) {
        requireWithin(periods, 1, MAX_AHEAD);
    }

    private static void requireWithin(int value, int least, int greatest) {
        if (value < least || value > greatest) {
            throw new IllegalArgumentException();
        }
    }

    private static int leastOf(int tierNumber) {
        return tierNumber == ROOM ? 1 : 0;
    }

    private static int greatestOf(int tierNumber) {
        return tierNumber == ROOM ? MAX_ROOM : MAX_RATE_OF_COST;
    }

    private static int bytesIn(int four) {
        int bytes = 0;
        for (int shift = 24; shift >= 0; shift -= 8) {
            if (((four >> shift) & 255) != 0) {
                bytes++;
            }
        }
        return bytes;
    }

    /** A tier: its name, its numbers as tier() tells them, and what was paid on it by kind. */
    private static final class TierRow {
        long name = 0;
        final int[] numbers = new int[TIER_NUMBERS];
        final long[] paid = new long[ALL_COSTS];

        void copyFrom(TierRow other) {
            name = other.name;
            for (int i = 0; i < TIER_NUMBERS; i++) {
                numbers[i] = other.numbers[i];
            }
            for (int i = 0; i < ALL_COSTS; i++) {
                paid[i] = other.paid[i];
            }
        }

        void startAs(long newName) {
            name = newName;
            for (int i = 0; i < ALL_COSTS; i++) {
                paid[i] = 0;
            }
        }

        long paidFor(int what) {
            return what == ALL_COSTS ? paid[KEEPING] + paid[READING] + paid[MOVING] : paid[what];
        }
    }

    /** A file: where it is, how it was used, and the seasons that were learned from that. */
    private static final class FileRow {
        /** 0 for a file without a name. */
        long name = 0;
        int size = 0;
        int home = 0;
        int uses = 0;
        int pinnedUntil = 0;
        int scored = 0;
        long offSum = 0;
        int keptCount = 0;
        /** The uses of the latest periods, the oldest one first. */
        final int[] keptUses = new int[MAX_KEPT];
        /** By phases; NONE where it is unknown, and behind the cycle. */
        final int[] seasons = new int[MAX_CYCLE];

        void copyFrom(FileRow other) {
            name = other.name;
            size = other.size;
            home = other.home;
            uses = other.uses;
            pinnedUntil = other.pinnedUntil;
            scored = other.scored;
            offSum = other.offSum;
            keptCount = other.keptCount;
            System.arraycopy(other.keptUses, 0, keptUses, 0, MAX_KEPT);
            System.arraycopy(other.seasons, 0, seasons, 0, MAX_CYCLE);
        }

        void startAs(long newName, int newSize, int tier, int until) {
            name = newName;
            size = newSize;
            home = tier;
            uses = 0;
            pinnedUntil = until;
            scored = 0;
            offSum = 0;
            keptCount = 0;
            forgetSeasons();
        }

        boolean isPinnedIn(int period) {
            return period < pinnedUntil;
        }

        void forgetSeasons() {
            for (int i = 0; i < MAX_CYCLE; i++) {
                seasons[i] = NONE;
            }
        }

        int knownSeasons() {
            int known = 0;
            for (int i = 0; i < MAX_CYCLE; i++) {
                if (seasons[i] != NONE) {
                    known++;
                }
            }
            return known;
        }

        int busiestPhase() {
            int best = NONE;
            int greatest = NONE;
            for (int i = 0; i < MAX_CYCLE; i++) {
                if (seasons[i] > greatest) {
                    greatest = seasons[i];
                    best = i;
                }
            }
            return best;
        }

        int seasonSpread() {
            int phase = busiestPhase();
            if (phase == NONE) {
                return 0;
            }
            int greatest = seasons[phase];
            int least = greatest;
            for (int i = 0; i < MAX_CYCLE; i++) {
                if (seasons[i] != NONE && seasons[i] < least) {
                    least = seasons[i];
                }
            }
            return greatest - least;
        }

        int meanSeason() {
            int sum = 0;
            int known = 0;
            for (int i = 0; i < MAX_CYCLE; i++) {
                if (seasons[i] != NONE) {
                    sum += seasons[i];
                    known++;
                }
            }
            return known == 0 ? 0 : sum / known;
        }

        int forecastFor(int phase) {
            return seasons[phase] != NONE ? seasons[phase] : meanSeason();
        }

        void learnSeason(int phase, int times, int rate) {
            int goal = PARTS * times;
            int old = seasons[phase];
            seasons[phase] = old == NONE ? goal : old + (goal - old) * rate / 8;
        }

        void scoreForecast(int phase) {
            if (knownSeasons() > 0) {
                offSum += Math.abs(PARTS * uses - forecastFor(phase));
                scored++;
            }
        }

        void keepUses() {
            if (keptCount == MAX_KEPT) {
                System.arraycopy(keptUses, 1, keptUses, 0, MAX_KEPT - 1);
                keptCount--;
            }
            keptUses[keptCount] = uses;
            keptCount++;
            uses = 0;
        }

        /** The periods kept are the latest ones ahead of the given period, without a gap. */
        void learnFromKept(int period, int cycle, int rate) {
            forgetSeasons();
            int oldest = period - keptCount;
            for (int i = 0; i < keptCount; i++) {
                learnSeason(Math.floorMod(oldest + i, cycle), keptUses[i], rate);
            }
        }

        int differenceAt(int distance) {
            int sum = 0;
            for (int i = 0; i + distance < keptCount; i++) {
                sum += Math.abs(keptUses[i] - keptUses[i + distance]);
            }
            return sum;
        }

        int ownCycle() {
            int best = NONE;
            int bestSum = 0;
            int bestPairs = 1;
            for (int c = MIN_CYCLE; c <= MAX_CYCLE && c < keptCount; c++) {
                int sum = differenceAt(c);
                int pairs = keptCount - c;
                // Both means multiplied by both numbers of pairs, so that nothing is rounded.
                if (best == NONE || sum * bestPairs < bestSum * pairs) {
                    best = c;
                    bestSum = sum;
                    bestPairs = pairs;
                }
            }
            return best;
        }
    }

    /** The moves of the period at hand that can be undone, the oldest one first. */
    private static final class Moves {
        static final int FILE = 0;
        static final int FROM = 1;
        static final int TO = 2;
        static final int OUT_COST = 3;
        static final int IN_COST = 4;
        static final int FIELDS = 5;

        int size = 0;
        final int[] rows = new int[MAX_MOVES * FIELDS];

        void copyFrom(Moves other) {
            size = other.size;
            System.arraycopy(other.rows, 0, rows, 0, size * FIELDS);
        }

        /** Tells a number of the latest move; there must be one. */
        int latest(int field) {
            return rows[(size - 1) * FIELDS + field];
        }

        void put(int file, int from, int to, int outCost, int inCost) {
            if (size == MAX_MOVES) {
                removeRow(0);
            }
            int start = size * FIELDS;
            rows[start + FILE] = file;
            rows[start + FROM] = from;
            rows[start + TO] = to;
            rows[start + OUT_COST] = outCost;
            rows[start + IN_COST] = inCost;
            size++;
        }

        void removeRow(int row) {
            int start = row * FIELDS;
            System.arraycopy(rows, start + FIELDS, rows, start, (size - row - 1) * FIELDS);
            size--;
        }

        /** Takes out the moves of a file that goes, and gives those behind it their new numbers. */
        void forgetFile(int file) {
            for (int i = size - 1; i >= 0; i--) {
                int mover = rows[i * FIELDS + FILE];
                if (mover == file) {
                    removeRow(i);
                } else if (mover > file) {
                    rows[i * FIELDS + FILE] = mover - 1;
                }
            }
        }
    }

    /** Everything that an undo brings back. */
    private static final class Store {
        int cycle = MIN_CYCLE;
        int rate = DEFAULT_RATE;
        int period = 0;
        int tierCount = 0;
        int fileCount = 0;
        final TierRow[] tiers = new TierRow[MAX_TIERS];
        final FileRow[] files = new FileRow[MAX_FILES];
        final Moves moves = new Moves();

        Store() {
            for (int i = 0; i < MAX_TIERS; i++) {
                tiers[i] = new TierRow();
            }
            for (int i = 0; i < MAX_FILES; i++) {
                files[i] = new FileRow();
            }
        }

        void copyFrom(Store other) {
            cycle = other.cycle;
            rate = other.rate;
            period = other.period;
            tierCount = other.tierCount;
            fileCount = other.fileCount;
            for (int i = 0; i < tierCount; i++) {
                tiers[i].copyFrom(other.tiers[i]);
            }
            for (int i = 0; i < fileCount; i++) {
                files[i].copyFrom(other.files[i]);
            }
            moves.copyFrom(other.moves);
        }

        void startAs(int newCycle, int newRate) {
            cycle = newCycle;
            rate = newRate;
            period = 0;
            tierCount = 0;
            fileCount = 0;
            moves.size = 0;
        }

        void startAsNew() {
            startAs(MIN_CYCLE, DEFAULT_RATE);
            for (int i = 0; i < MIN_TIERS; i++) {
                putTier(Writer.withLetter(0, 'a' + i));
                for (int n = 0; n < TIER_NUMBERS; n++) {
                    tiers[i].numbers[n] = n == ROOM ? FIRST_ROOM : FIRST_COST;
                }
            }
        }

        int phaseAhead(int ahead) {
            return (period + ahead) % cycle;
        }

        int tierNamed(long name) {
            for (int i = 0; i < tierCount; i++) {
                if (tiers[i].name == name) {
                    return i;
                }
            }
            return NONE;
        }

        int fileNamed(long name) {
            for (int i = 0; i < fileCount; i++) {
                if (files[i].name == name) {
                    return i;
                }
            }
            return NONE;
        }

        int pinnedFiles() {
            int pinned = 0;
            for (int i = 0; i < fileCount; i++) {
                if (files[i].isPinnedIn(period)) {
                    pinned++;
                }
            }
            return pinned;
        }

        int sizeOfAll() {
            int sum = 0;
            for (int i = 0; i < fileCount; i++) {
                sum += files[i].size;
            }
            return sum;
        }

        int sizeOn(int tier) {
            int sum = 0;
            for (int i = 0; i < fileCount; i++) {
                if (files[i].home == tier) {
                    sum += files[i].size;
                }
            }
            return sum;
        }

        int filesOn(int tier) {
            int found = 0;
            for (int i = 0; i < fileCount; i++) {
                if (files[i].home == tier) {
                    found++;
                }
            }
            return found;
        }

        int mostUsedOn(int tier) {
            int phase = phaseAhead(0);
            int best = NONE;
            int most = NONE;
            for (int i = 0; i < fileCount; i++) {
                int expected = files[i].forecastFor(phase);
                if (files[i].home == tier && expected > most) {
                    most = expected;
                    best = i;
                }
            }
            return best;
        }

        boolean hasRoomFor(int tier, int size) {
            return sizeOn(tier) + size <= tiers[tier].numbers[ROOM];
        }

        long paidOnAll(int what) {
            long sum = 0;
            for (int i = 0; i < tierCount; i++) {
                sum += tiers[i].paidFor(what);
            }
            return sum;
        }

        /** The sum of the forecasts of a file for some periods from the one at hand. */
        long forecastSum(int file, int periods) {
            FileRow row = files[file];
            int mean = row.meanSeason();
            long sum = 0;
            for (int i = 0; i < periods; i++) {
                int known = row.seasons[phaseAhead(i)];
                sum += known == NONE ? mean : known;
            }
            return sum;
        }

        long costOn(int file, int tier, int periods, long forecasts) {
            long size = files[file].size;
            int[] numbers = tiers[tier].numbers;
            return periods * size * numbers[KEEP_RATE] + size * numbers[READ_RATE] * forecasts / PARTS;
        }

        int moveCost(int file, int from, int to) {
            return files[file].size * (tiers[from].numbers[OUT_RATE] + tiers[to].numbers[IN_RATE]);
        }

        void putTier(long name) {
            tiers[tierCount].startAs(name);
            tierCount++;
        }

        void putFile(long name, int size, int tier, int until) {
            files[fileCount].startAs(name, size, tier, until);
            fileCount++;
        }

        void removeFile(int file) {
            FileRow gone = files[file];
            for (int i = file; i + 1 < fileCount; i++) {
                files[i] = files[i + 1];
            }
            fileCount--;
            files[fileCount] = gone;
            moves.forgetFile(file);
        }

        long endPeriod() {
            int phase = phaseAhead(0);
            long sum = 0;
            for (int i = 0; i < fileCount; i++) {
                FileRow row = files[i];
                sum += payFor(row);
                row.scoreForecast(phase);
                row.learnSeason(phase, row.uses, rate);
                row.keepUses();
            }
            period++;
            moves.size = 0;
            return sum;
        }

        long payFor(FileRow row) {
            TierRow home = tiers[row.home];
            long keeping = row.size * home.numbers[KEEP_RATE];
            long reading = (long) row.size * row.uses * home.numbers[READ_RATE];
            home.paid[KEEPING] += keeping;
            home.paid[READING] += reading;
            return keeping + reading;
        }

        int carry(int file, int tier) {
            FileRow row = files[file];
            int outCost = row.size * tiers[row.home].numbers[OUT_RATE];
            int inCost = row.size * tiers[tier].numbers[IN_RATE];
            moves.put(file, row.home, tier, outCost, inCost);
            tiers[row.home].paid[MOVING] += outCost;
            tiers[tier].paid[MOVING] += inCost;
            row.home = tier;
            return outCost + inCost;
        }

        /** Undoes the latest move at what it cost then, whatever moving would cost now. */
        void carryBack() {
            int from = moves.latest(Moves.FROM);
            tiers[from].paid[MOVING] -= moves.latest(Moves.OUT_COST);
            tiers[moves.latest(Moves.TO)].paid[MOVING] -= moves.latest(Moves.IN_COST);
            files[moves.latest(Moves.FILE)].home = from;
            moves.size--;
        }

        void learnAgain(int newCycle, int newRate) {
            cycle = newCycle;
            rate = newRate;
            for (int i = 0; i < fileCount; i++) {
                files[i].learnFromKept(period, cycle, rate);
            }
        }
    }

    /** What was before the latest changes, in a ring. */
    private static final class History {
        int size = 0;
        private int next = 0;
        private final Store[] ring = new Store[MAX_CHANGES];

        History() {
            for (int i = 0; i < MAX_CHANGES; i++) {
                ring[i] = new Store();
            }
        }

        void remember(Store store) {
            ring[next].copyFrom(store);
            next = (next + 1) % MAX_CHANGES;
            if (size < MAX_CHANGES) {
                size++;
            }
        }

        /** Brings back what was before the latest change; there must be one. */
        void bringBack(Store store) {
            next = (next + MAX_CHANGES - 1) % MAX_CHANGES;
            size--;
            store.copyFrom(ring[next]);
        }
    }

    /** Finds the steps of a plan on paper; the store stays as it is until they are carried out. */
    private static final class Planner {
        int stepCount = 0;
        long saved = 0;
        final int[] firstFiles = new int[MAX_FILES];
        final int[] otherFiles = new int[MAX_FILES];
        final int[] targets = new int[MAX_FILES];

        /** What each file saves by a move to each tier: a file moves once, so this stays. */
        private final long[] gains = new long[MAX_FILES * MAX_TIERS];
        private final boolean[] open = new boolean[MAX_FILES];
        private final int[] space = new int[MAX_TIERS];

        private int bestFile = NONE;
        private int bestOther = NONE;
        private int bestTarget = NONE;
        private long bestGain = 0;

        void makePlan(Store store, int periods) {
            for (int i = 0; i < store.fileCount; i++) {
                findGains(store, i, periods);
            }
            planAgain(store, 0, 0);
        }

        /** Plans by the gains that were found last, with more room on a tier. */
        void planAgain(Store store, int tier, int more) {
            stepCount = 0;
            saved = 0;
            for (int i = 0; i < store.tierCount; i++) {
                space[i] = store.tiers[i].numbers[ROOM] - store.sizeOn(i);
            }
            space[tier] += more;
            for (int i = 0; i < store.fileCount; i++) {
                open[i] = !store.files[i].isPinnedIn(store.period);
            }
            for (int i = 0; i < MAX_FILES && (findMove(store) || findExchange(store)); i++) {
                takeStep(store);
            }
        }

        int bestTier(Store store, int file, int periods) {
            findGains(store, file, periods);
            int best = store.files[file].home;
            long most = 0;
            for (int t = 0; t < store.tierCount; t++) {
                if (gains[file * MAX_TIERS + t] > most) {
                    most = gains[file * MAX_TIERS + t];
                    best = t;
                }
            }
            return best;
        }

        int carryOut(Store store) {
            int moved = 0;
            for (int i = 0; i < stepCount; i++) {
                int from = store.files[firstFiles[i]].home;
                store.carry(firstFiles[i], targets[i]);
                moved++;
                if (otherFiles[i] != NONE) {
                    store.carry(otherFiles[i], from);
                    moved++;
                }
            }
            return moved;
        }

        private void findGains(Store store, int file, int periods) {
            int home = store.files[file].home;
            long forecasts = store.forecastSum(file, periods);
            long stay = store.costOn(file, home, periods, forecasts);
            for (int t = 0; t < store.tierCount; t++) {
                gains[file * MAX_TIERS + t] = t == home ? 0
                        : stay - store.costOn(file, t, periods, forecasts) - store.moveCost(file, home, t);
            }
        }

        private boolean findMove(Store store) {
            bestGain = 0;
            for (int i = 0; i < store.fileCount; i++) {
                for (int t = 0; open[i] && t < store.tierCount; t++) {
                    long gain = gains[i * MAX_TIERS + t];
                    if (gain > bestGain && store.files[i].size <= space[t]) {
                        setBest(i, NONE, t, gain);
                    }
                }
            }
            return bestGain > 0;
        }

        private boolean findExchange(Store store) {
            bestGain = 0;
            for (int i = 0; i < store.fileCount; i++) {
                for (int j = i + 1; open[i] && j < store.fileCount; j++) {
                    int a = store.files[i].home;
                    int b = store.files[j].home;
                    long gain = gains[i * MAX_TIERS + b] + gains[j * MAX_TIERS + a];
                    int grows = store.files[j].size - store.files[i].size;
                    if (open[j] && a != b && gain > bestGain && grows <= space[a] && -grows <= space[b]) {
                        setBest(i, j, b, gain);
                    }
                }
            }
            return bestGain > 0;
        }

        private void setBest(int file, int other, int target, long gain) {
            bestFile = file;
            bestOther = other;
            bestTarget = target;
            bestGain = gain;
        }

        private void takeStep(Store store) {
            firstFiles[stepCount] = bestFile;
            otherFiles[stepCount] = bestOther;
            targets[stepCount] = bestTarget;
            stepCount++;
            saved += bestGain;
            int from = store.files[bestFile].home;
            takeAway(bestFile, store.files[bestFile].size, from, bestTarget);
            if (bestOther != NONE) {
                takeAway(bestOther, store.files[bestOther].size, bestTarget, from);
            }
        }

        private void takeAway(int file, int size, int from, int to) {
            open[file] = false;
            space[from] += size;
            space[to] -= size;
        }
    }

    /** The text buffer, and the reading of a store from it. */
    private static final class Reader {
        int length = 0;
        int errorAt = NONE;

        private final int[] text = new int[MAX_TEXT];
        private int at = 0;
        private int error = 0;
        /** The number or the name that was read last, and where it began. */
        private int number = 0;
        private long name = 0;
        private int nameAt = 0;

        void putBytesOf(int four) {
            for (int shift = 24; shift >= 0; shift -= 8) {
                int value = (four >> shift) & 255;
                if (value != 0 && length < MAX_TEXT) {
                    text[length] = value;
                    length++;
                }
            }
        }

        /** Reads the whole buffer and empties it; answers the number of files, or the error code. */
        int readStore(Store store) {
            at = 0;
            errorAt = NONE;
            boolean good = readHead(store) && readTiers(store) && readFiles(store);
            length = 0;
            return good ? store.fileCount : error;
        }

        private boolean readHead(Store store) {
            if (!passWord("cycle") || !readNumber(MIN_CYCLE, MAX_CYCLE)) {
                return false;
            }
            int cycle = number;
            int rate = DEFAULT_RATE;
            if (nextIsWord("rate")) {
                if (!passWord("rate") || !readNumber(1, MAX_RATE)) {
                    return false;
                }
                rate = number;
            }
            store.startAs(cycle, rate);
            return passSemicolon();
        }

        private boolean readTiers(Store store) {
            for (int i = 0; i <= MAX_TIERS && (i < MIN_TIERS || nextIsWord("tier")); i++) {
                if (!readTier(store)) {
                    return false;
                }
            }
            return true;
        }

        private boolean readTier(Store store) {
            if (nextIsWord("tier") && store.tierCount == MAX_TIERS) {
                return fail(TOO_MANY, at);
            }
            if (!passWord("tier") || !readName()) {
                return false;
            }
            if (store.tierNamed(name) != NONE) {
                return fail(TWICE, nameAt);
            }
            store.putTier(name);
            for (int i = 0; i < TIER_NUMBERS; i++) {
                if (!readNumber(leastOf(i), greatestOf(i))) {
                    return false;
                }
                store.tiers[store.tierCount - 1].numbers[i] = number;
            }
            return passSemicolon();
        }

        private boolean readFiles(Store store) {
            for (int i = 0; i <= MAX_FILES && nextByte() != NONE; i++) {
                if (!readFile(store)) {
                    return false;
                }
            }
            return true;
        }

        private boolean readFile(Store store) {
            if (nextIsWord("file") && store.fileCount == MAX_FILES) {
                return fail(TOO_MANY, at);
            }
            if (!passWord("file") || !readName()) {
                return false;
            }
            if (store.fileNamed(name) != NONE) {
                return fail(TWICE, nameAt);
            }
            long fileName = name;
            if (!readNumber(1, MAX_SIZE)) {
                return false;
            }
            int size = number;
            if (!passWord("on") || !readName()) {
                return false;
            }
            int tier = store.tierNamed(name);
            if (tier == NONE) {
                return fail(UNKNOWN, nameAt);
            }
            if (!store.hasRoomFor(tier, size)) {
                return fail(NO_ROOM, nameAt);
            }
            number = 0;
            if (nextIsWord("pin") && (!passWord("pin") || !readNumber(0, MAX_PERIOD))) {
                return false;
            }
            store.putFile(fileName, size, tier, number);
            return passSemicolon();
        }

        private boolean readName() {
            nextByte();
            int end = endOfWord();
            if (end == at || end - at > MAX_NAME) {
                return fail(SYNTAX_ERROR, at);
            }
            nameAt = at;
            name = 0;
            for (; at < end; at++) {
                name = Writer.withLetter(name, text[at]);
            }
            return true;
        }

        private boolean readNumber(int least, int greatest) {
            if (!isDigit(nextByte())) {
                return fail(SYNTAX_ERROR, at);
            }
            int start = at;
            number = 0;
            for (; at < length && isDigit(text[at]); at++) {
                // Once a number is beyond every range it need not grow, and so cannot wrap around.
                if (number <= MAX_ROOM) {
                    number = number * 10 + text[at] - '0';
                }
            }
            return number >= least && number <= greatest || fail(VALUE_ERROR, start);
        }

        private boolean passSemicolon() {
            if (nextByte() != ';') {
                return fail(SYNTAX_ERROR, at);
            }
            at++;
            return true;
        }

        private boolean passWord(String word) {
            if (!nextIsWord(word)) {
                return fail(SYNTAX_ERROR, at);
            }
            at += word.length();
            return true;
        }

        private boolean nextIsWord(String word) {
            nextByte();
            if (endOfWord() - at != word.length()) {
                return false;
            }
            for (int i = 0; i < word.length(); i++) {
                if (text[at + i] != word.charAt(i)) {
                    return false;
                }
            }
            return true;
        }

        /** Goes to the next token and answers its first byte; NONE at the end of the text. */
        private int nextByte() {
            while (at < length && text[at] == ' ') {
                at++;
            }
            return at < length ? text[at] : NONE;
        }

        private int endOfWord() {
            int end = at;
            while (end < length && text[end] >= 'a' && text[end] <= 'z') {
                end++;
            }
            return end;
        }

        private static boolean isDigit(int value) {
            return value >= '0' && value <= '9';
        }

        private boolean fail(int code, int position) {
            error = code;
            errorAt = position;
            return false;
        }
    }

    /** The written text, and names, which are held as letters of five bits, the first one highest. */
    private static final class Writer {
        private static final int LETTER_BITS = 5;
        private static final int LETTER_MASK = 31;

        int length = 0;
        final int[] bytes = new int[MAX_WRITTEN];

        static long withLetter(long name, int letter) {
            return (name << LETTER_BITS) + (letter - 'a' + 1);
        }

        void writeStore(Store store) {
            length = 0;
            for (int i = 0; i < store.tierCount; i++) {
                if (i > 0) {
                    putByte(' ');
                }
                putName(store.tiers[i].name);
                putByte(':');
                putFilesOn(store, i);
            }
        }

        private void putFilesOn(Store store, int tier) {
            boolean first = true;
            for (int i = 0; i < store.fileCount; i++) {
                if (store.files[i].home == tier) {
                    if (!first) {
                        putByte(',');
                    }
                    putName(store.files[i].name);
                    first = false;
                }
            }
        }

        private void putName(long name) {
            if (name == 0) {
                putByte('-');
            }
            for (int shift = (MAX_NAME - 1) * LETTER_BITS; shift >= 0; shift -= LETTER_BITS) {
                int letter = (int) (name >> shift) & LETTER_MASK;
                if (letter > 0) {
                    putByte('a' + letter - 1);
                }
            }
        }

        private void putByte(int value) {
            if (length < MAX_WRITTEN) {
                bytes[length] = value;
                length++;
            }
        }
    }
}
