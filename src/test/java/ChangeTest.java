/** Promises 23 to 35: the changes, what is refused, and how changes are undone, saved and restored. */
public final class ChangeTest {
    private static final int NONE = SeasonTiers.NONE;
    private static final String TWO = "cycle 2;tier hot 100 3 1 2 1;tier cold 1000 1 5 1 2;";
    private static final String STORE = TWO + "file a 10 on hot;file b 20 on cold;";

    public static void main(String[] args) {
        promise23();
        promise24();
        promise25();
        promise26();
        lastPeriod();
        promise27();
        promise28();
        movesForgotten();
        movesBroughtBack();
        promise29();
        promise31();
        promise32();
        promise33();
        eachChange();
        notUndone();
        promise34();
        allThatIsKept();
        promise35();
        Check.end();
    }

    private static void promise23() {
        SeasonTiers x = Check.of(STORE);
        x.close();
        Check.same("23: its number", x.add(90, 0), 2);
        int[] due = {90, 0, 0, 0, 0, 0, 0, 0, NONE, 0};
        for (int i = 0; i < due.length; i++) {
            Check.same("23: its number " + i, x.file(2, i), due[i]);
        }
        Check.same("23: its seasons", x.season(2, 0), NONE);
        Check.same("23: its off", x.off(2), 0);
        Check.same("23: no room", x.add(1, 0), -15);
        Check.same("23: room elsewhere", x.add(1, 1), 3);
        Check.same("23: behind all others", Check.written(x), "hot:a,- cold:b,-");
        Check.refused("23: size 0", Check.ARGUMENT, () -> x.add(0, 0));
        Check.refused("23: size 1000", Check.ARGUMENT, () -> x.add(1000, 0));
        Check.refused("23: tier 2", Check.INDEX, () -> x.add(1, 2));
        Check.refused("23: tier -1", Check.INDEX, () -> x.add(1, -1));
        Check.refused("23: both", Check.ARGUMENT, () -> x.add(0, 2));
        Check.same("23: the greatest", x.add(900, 1), 4);
        for (int i = 5; i < 20; i++) {
            Check.same("23: more files", x.add(1, 1), i);
        }
        Check.same("23: 20 files", x.add(1, 1), -11);
        Check.same("23: 20 files and no room", x.add(999, 0), -11);
        Check.same("23: size 999", new SeasonTiers().add(999, 0), -15);
        x.undo();
        Check.same("23: a refusal is no change", x.count(3), 19);
        reused();
    }

    /** What a dropped file was told must not come back with the next one. */
    private static void reused() {
        SeasonTiers x = Check.of(STORE);
        x.use(1, 7);
        x.close();
        x.close();
        x.use(1, 7);
        x.pin(1, 99);
        x.drop(1);
        x.add(5, 0);
        int[] due = {5, 0, 0, 0, 0, 0, 0, 0, NONE, 0};
        for (int i = 0; i < due.length; i++) {
            Check.same("23: behind a dropped one, number " + i, x.file(1, i), due[i]);
        }
        Check.same("23: behind a dropped one, off", x.off(1), 0);
        Check.same("23: behind a dropped one, forecast", x.forecast(1, 1), 0);
        Check.same("23: behind a dropped one, name", Check.written(x), "hot:a,- cold:");
    }

    private static void promise24() {
        SeasonTiers x = Check.of(TWO + "file a 1 on hot pin 9;file b 2 on cold;file c 3 on hot;file d 4 on cold;");
        x.use(2, 6);
        x.move(1, 0);
        x.move(3, 0);
        x.move(1, 1);
        x.move(2, 1);
        Check.same("24: a pinned one", x.drop(0), 3);
        Check.same("24: the numbers behind it", Check.written(x), "hot:d cold:b,c");
        Check.same("24: none is pinned now", x.count(5), 0);
        Check.same("24: what they were", x.file(1, 2), 6);
        Check.same("24: their moves", x.count(6), 4);
        long paid = x.account(NONE, 2);
        Check.same("24: one that moved twice", x.drop(0), 2);
        Check.same("24: its moves", x.count(6), 2);
        Check.same("24: what they cost stays", x.account(NONE, 2), paid);
        Check.same("24: the move of c", x.unmove(), 0);
        Check.same("24: the move of d", x.unmove(), 1);
        Check.same("24: no other", x.unmove(), -16);
        Check.same("24: where they are", Check.written(x), "hot:c cold:d");
        Check.refused("24: file 2", Check.INDEX, () -> x.drop(2));
        Check.refused("24: file -1", Check.INDEX, () -> x.drop(-1));
        Check.same("24: the last", x.drop(1), 1);
        Check.same("24: the only one", x.drop(0), 0);
        Check.refused("24: none is left", Check.INDEX, () -> x.drop(0));
        x.undo();
        x.undo();
        Check.same("24: undone", Check.written(x), "hot:c cold:d");
        Check.same("24: undone uses", x.file(0, 2), 6);
    }

    private static void promise25() {
        SeasonTiers x = Check.of(STORE);
        Check.same("25: once", x.use(0, 1), 1);
        Check.same("25: more", x.use(0, 4), 5);
        Check.same("25: the other one", x.use(1, 9999), 9999);
        Check.same("25: one too many", x.use(1, 1), -18);
        Check.same("25: far too many", x.use(0, 9999), -18);
        Check.same("25: as many as there may be", x.use(0, 9994), 9999);
        Check.refused("25: file 2", Check.INDEX, () -> x.use(2, 1));
        Check.refused("25: file -1", Check.INDEX, () -> x.use(-1, 1));
        Check.refused("25: times 0", Check.ARGUMENT, () -> x.use(0, 0));
        Check.refused("25: times 10000", Check.ARGUMENT, () -> x.use(0, 10000));
        Check.refused("25: times far", Check.ARGUMENT, () -> x.use(0, Integer.MAX_VALUE));
        Check.refused("25: both", Check.INDEX, () -> x.use(2, 0));
        x.undo();
        Check.same("25: refusals are no changes", x.file(0, 2), 5);
        x.pin(0, 5);
        Check.same("25: a pinned one", x.use(0, 1), 6);
        x.close();
        Check.same("25: the next period", x.use(0, 2), 2);
    }

    private static void promise26() {
        SeasonTiers x = Check.of(STORE);
        x.use(0, 3);
        x.use(1, 4);
        x.move(0, 1);
        x.move(0, 0);
        Check.same("26: keeping and reading", x.close(), 480);
        Check.same("26: the period", x.count(4), 1);
        Check.same("26: the moves", x.count(6), 0);
        Check.same("26: no move to undo", x.unmove(), -16);
        Check.same("26: the uses of a", x.file(0, 2), 0);
        Check.same("26: the uses of b", x.file(1, 2), 0);
        Check.same("26: the season", x.season(1, 0), 64);
        Check.same("26: kept", x.kept(1, 0), 4);
        Check.same("26: keeping alone", x.close(), 50);
        Check.same("26: without files", new SeasonTiers().close(), 0);
        SeasonTiers y = Check.of("cycle 2;tier a 99999 99 99 1 1;tier b 9 1 1 1 1;file x 999 on a;file y 999 on a;file z 999 on a;");
        for (int f = 0; f < 3; f++) {
            y.use(f, 9999);
        }
        Check.same("26: great costs", y.close(), 3L * 999 * 99 * 10000);
    }

    /**
     * No object gets there within its 512 calls, and what comes behind them is free; so this holds what
     * the class does of itself, not what the document asks. It is the one test that goes on.
     */
    private static void lastPeriod() {
        SeasonTiers x = Check.of(TWO + "file a 10 on hot pin 9999;");
        for (int i = 0; i < 9998; i++) {
            x.close();
        }
        Check.same("26: still pinned", x.file(0, 4), 1);
        Check.same("26: into the last period", x.close(), 30);
        Check.same("26: the last period", x.count(4), 9999);
        Check.same("26: no longer pinned", x.file(0, 4), 0);
        x.use(0, 5);
        Check.same("26: the last one stays open", x.close(), -17);
        Check.same("26: its uses stay", x.file(0, 2), 5);
        x.undo();
        Check.same("26: a refusal is no change", x.file(0, 2), 0);
    }

    private static void promise27() {
        SeasonTiers x = Check.of("cycle 2;tier a 10 1 1 5 7;tier b 10 1 1 11 13;tier c 10 1 1 17 19;"
                + "file v 4 on a;file w 6 on b;file x 4 on b pin 1;");
        Check.same("27: full", x.move(0, 1), -15);
        Check.same("27: its cost", x.move(0, 2), 4 * (7 + 17));
        Check.same("27: out of a", x.account(0, 2), 28);
        Check.same("27: into c", x.account(2, 2), 68);
        Check.same("27: where it is", x.file(0, 1), 2);
        Check.same("27: on this tier", x.move(0, 2), -14);
        Check.same("27: pinned", x.move(2, 0), -13);
        Check.same("27: pinned on this tier", x.move(2, 1), -13);
        Check.same("27: just enough room", x.move(1, 2), 6 * (13 + 17));
        Check.same("27: on this tier, which is full", x.move(1, 2), -14);
        Check.same("27: pinned, without room", x.move(2, 2), -13);
        Check.same("27: can be undone", x.count(6), 2);
        x.close();
        Check.same("27: no longer pinned", x.move(2, 0), 4 * (13 + 5));
        Check.refused("27: file 3", Check.INDEX, () -> x.move(3, 0));
        Check.refused("27: file -1", Check.INDEX, () -> x.move(-1, 0));
        Check.refused("27: tier 3", Check.INDEX, () -> x.move(0, 3));
        Check.refused("27: tier -1", Check.INDEX, () -> x.move(0, -1));
        SeasonTiers y = Check.of("cycle 2;tier a 5 1 1 1 1;tier b 4 1 1 1 1;file v 5 on a;");
        Check.same("27: more room than it has", y.move(0, 1), -15);
        Check.refused("27: a refusal is no change", Check.INDEX, () -> {
            y.undo();
            return y.move(0, 0);
        });
    }

    private static void promise28() {
        SeasonTiers x = Check.of("cycle 2;tier a 10 1 1 5 7;tier b 20 1 1 11 13;file v 4 on a;file w 6 on b;");
        Check.same("28: none", x.unmove(), -16);
        x.move(0, 1);
        x.move(1, 0);
        x.setTier(0, 3, 0);
        x.setTier(1, 4, 99);
        x.pin(1, 9);
        Check.same("28: the latest, pinned", x.unmove(), 1);
        Check.same("28: where it is", Check.written(x), "a: b:v,w");
        Check.same("28: what it cost then is off a", x.account(0, 2), 28);
        Check.same("28: what it cost then is off b", x.account(1, 2), 44);
        Check.same("28: one is left", x.count(6), 1);
        x.setTier(0, 4, 0);
        x.setTier(1, 3, 0);
        x.add(7, 0);
        Check.same("28: no room", x.unmove(), -15);
        Check.same("28: still there", x.count(6), 1);
        x.drop(2);
        x.add(6, 0);
        Check.same("28: just enough room", x.unmove(), 0);
        Check.same("28: all is off", x.account(NONE, 3), 0);
        Check.same("28: all is off a", x.account(0, 2), 0);
        Check.same("28: all is off b", x.account(1, 2), 0);
        Check.same("28: none any more", x.unmove(), -16);
        x.undo();
        Check.same("28: undone", x.file(0, 1), 1);
        Check.same("28: the move is back", x.count(6), 1);
        Check.same("28: and its cost", x.account(NONE, 2), 72);
    }

    private static void movesForgotten() {
        SeasonTiers x = Check.of("cycle 2;tier a 10 0 0 1 0;tier b 20 0 0 10 0;file v 1 on a;file w 2 on a;");
        x.move(1, 1);
        x.move(0, 1);
        for (int i = 0; i < 59; i++) {
            x.move(0, i % 2);
        }
        Check.same("28: 60 of 61", x.count(6), 60);
        Check.same("28: 61 were paid", x.account(NONE, 2), 20 + 10 + 30 + 29 * 10);
        for (int i = 0; i < 60; i++) {
            Check.same("28: move " + (60 - i), x.unmove(), 0);
        }
        Check.same("28: the first is forgotten", x.unmove(), -16);
        Check.same("28: and was paid", x.account(NONE, 2), 20);
        Check.same("28: where they are", Check.written(x), "a:v b:w");
    }

    /** The moves themselves come back, not just how many there were. */
    private static void movesBroughtBack() {
        SeasonTiers x = Check.of("cycle 2;tier a 90 0 0 1 2;tier b 90 0 0 3 4;tier c 90 0 0 5 6;file u 1 on a;file v 2 on b;file w 3 on c;");
        x.move(0, 2);
        x.move(1, 0);
        x.save(0);
        x.unmove();
        x.unmove();
        x.move(2, 1);
        x.move(0, 1);
        x.save(1);
        x.restore(0);
        movesAre(x, "a:v b: c:u,w", 1, "a: b:v c:u,w", 0, "a:u b:v c:w");
        x.restore(1);
        movesAre(x, "a: b:u,v,w c:", 0, "a:u b:v,w c:", 2, "a:u b:v c:w");
        x.move(2, 0);
        x.undo();
        movesAre(x, "a: b:u,v,w c:", 0, "a:u b:v,w c:", 2, "a:u b:v c:w");
        for (int i = 0; i < 62; i++) {
            x.move(0, i % 2 == 0 ? 2 : 1);
        }
        x.move(1, 0);
        x.move(0, 0);
        Check.same("24: the latest 60", x.count(6), 60);
        x.drop(2);
        Check.same("24: of a file whose move is forgotten", x.count(6), 60);
        x.drop(1);
        Check.same("24: the last but one", x.count(6), 59);
        x.undo();
        Check.same("24: undone", x.count(6), 60);
        x.drop(0);
        Check.same("24: all but one", x.count(6), 1);
        Check.same("24: that one", x.unmove(), 0);
        Check.same("24: where it is", Check.written(x), "a: b:v c:");
    }

    /** What the store is, and what it becomes by two calls of unmove, which are then undone again. */
    private static void movesAre(SeasonTiers x, String now, int first, String then, int second, String last) {
        Check.same("28: now", Check.written(x), now);
        Check.same("28: the latest file", x.unmove(), first);
        Check.same("28: then", Check.written(x), then);
        Check.same("28: the file before", x.unmove(), second);
        Check.same("28: at last", Check.written(x), last);
        for (int t = 0; t < 3; t++) {
            Check.same("28: nothing was paid on " + t, x.account(t, 3), 0);
        }
        x.undo();
        x.undo();
        Check.same("28: undone", Check.written(x), now);
    }

    private static void promise29() {
        SeasonTiers x = Check.of(TWO + "file a 10 on hot;file b 20 on cold pin 5;");
        Check.same("29: before", x.pin(0, 1), 0);
        Check.same("29: as told", x.pin(1, 9999), 5);
        Check.same("29: anew", x.pin(1, 0), 9999);
        Check.same("29: until", x.file(0, 3), 1);
        Check.same("29: pinned", x.file(0, 4), 1);
        Check.same("29: not pinned", x.file(1, 4), 0);
        x.close();
        Check.same("29: not ahead", x.file(0, 4), 0);
        Check.same("29: still told", x.file(0, 3), 1);
        Check.same("29: not ahead of this one", x.pin(1, 1), 0);
        Check.same("29: so not pinned", x.count(5), 0);
        Check.refused("29: file 2", Check.INDEX, () -> x.pin(2, 0));
        Check.refused("29: file -1", Check.INDEX, () -> x.pin(-1, 0));
        Check.refused("29: until -1", Check.ARGUMENT, () -> x.pin(0, -1));
        Check.refused("29: until 10000", Check.ARGUMENT, () -> x.pin(0, 10000));
        Check.refused("29: both", Check.INDEX, () -> x.pin(2, -1));
        Check.same("29: nothing changed", x.pin(0, 2), 1);
        x.undo();
        Check.same("29: undone", x.file(0, 3), 1);
    }

    private static void promise31() {
        SeasonTiers x = Check.of("cycle 2 rate 8;tier a 10 1 1 1 1;tier b 10 1 1 1 1;file x 1 on a;");
        for (int i = 1; i <= 25; i++) {
            x.use(0, i);
            x.close();
        }
        // uses 2 to 25 are kept, of the periods 1 to 24
        Check.same("31: before", x.learn(12, 8), 2);
        Check.same("31: the cycle", x.count(0), 12);
        Check.same("31: the rate", x.count(1), 8);
        Check.same("31: phase 0", x.season(0, 0), 16 * 25);
        Check.same("31: phase 1", x.season(0, 1), 16 * 14);
        Check.same("31: phase 11", x.season(0, 11), 16 * 24);
        Check.same("31: before that", x.learn(5, 4), 12);
        // phase 0: periods 5, 10, 15, 20 with 6, 11, 16, 21 uses
        Check.same("31: the oldest ones first", x.season(0, 0), 16 * 6 + 40 + 60 + 70);
        Check.same("31: five are known", x.file(0, 7), 5);
        Check.refused("31: no phase 5", Check.INDEX, () -> x.season(0, 5));
        x.learn(12, 1);
        x.learn(2, 1);
        Check.same("31: no phases behind the cycle", x.file(0, 7), 2);
        laterFiles();
        sameNumbers();
        Check.refused("31: cycle 1", Check.ARGUMENT, () -> x.learn(1, 1));
        Check.refused("31: cycle 13", Check.ARGUMENT, () -> x.learn(13, 1));
        Check.refused("31: rate 0", Check.ARGUMENT, () -> x.learn(2, 0));
        Check.refused("31: rate 9", Check.ARGUMENT, () -> x.learn(2, 9));
        x.undo();
        Check.same("31: undone", x.file(0, 7), 12);
        Check.same("31: the cycle before", x.count(0), 12);
    }

    private static void laterFiles() {
        SeasonTiers x = Check.of(STORE);
        x.close();
        x.close();
        x.add(1, 0);
        x.use(2, 3);
        x.close();
        x.use(2, 5);
        x.learn(4, 4);
        Check.same("31: by the number of the period", x.season(2, 2), 48);
        Check.same("31: phase 0 of a later file", x.season(2, 0), NONE);
        Check.same("31: of an earlier one", x.season(0, 0), 0);
        Check.same("31: the period at hand", x.season(2, 3), NONE);
        Check.same("31: its uses stay", x.file(2, 2), 5);
    }

    /** Also with the same cycle and rate all seasons are learned again, of 24 periods alone. */
    private static void sameNumbers() {
        SeasonTiers x = Check.of("cycle 2 rate 1;tier a 10 1 1 1 1;tier b 10 1 1 1 1;file x 1 on a;");
        x.use(0, 9999);
        x.close();
        for (int i = 1; i < 25; i++) {
            x.close();
        }
        boolean greater = x.season(0, 0) > 0;
        x.learn(2, 1);
        Check.same("31: what is not kept is not learned", greater ? x.season(0, 0) : NONE, 0);
    }

    private static void promise32() {
        SeasonTiers x = Check.of(STORE);
        int[] first = {100, 3, 1, 2, 1};
        for (int i = 0; i < 5; i++) {
            Check.same("32: before " + i, x.setTier(0, i, 50 + i), first[i]);
        }
        for (int i = 0; i < 5; i++) {
            Check.same("32: set " + i, x.tier(0, i), 50 + i);
        }
        Check.same("32: the other tier", x.tier(1, 0), 1000);
        Check.same("32: too little room", x.setTier(0, 0, 9), -15);
        Check.same("32: just enough room", x.setTier(0, 0, 10), 50);
        Check.same("32: the most room", x.setTier(0, 0, 99999), 10);
        for (int i = 1; i < 5; i++) {
            Check.same("32: the least cost " + i, x.setTier(0, i, 0), 50 + i);
            Check.same("32: the greatest cost " + i, x.setTier(0, i, 99), 0);
        }
        Check.same("32: the least room", new SeasonTiers().setTier(1, 0, 1), 10);
        Check.refused("32: tier 2", Check.INDEX, () -> x.setTier(2, 0, 1));
        Check.refused("32: tier -1", Check.INDEX, () -> x.setTier(-1, 0, 1));
        Check.refused("32: what 5", Check.ARGUMENT, () -> x.setTier(0, 5, 1));
        Check.refused("32: what -1", Check.ARGUMENT, () -> x.setTier(0, -1, 1));
        Check.refused("32: room 0", Check.ARGUMENT, () -> x.setTier(0, 0, 0));
        Check.refused("32: room 100000", Check.ARGUMENT, () -> x.setTier(0, 0, 100000));
        for (int i = 1; i < 5; i++) {
            int what = i;
            Check.refused("32: cost -1 of " + i, Check.ARGUMENT, () -> x.setTier(0, what, -1));
            Check.refused("32: cost 100 of " + i, Check.ARGUMENT, () -> x.setTier(0, what, 100));
        }
        Check.refused("32: all", Check.INDEX, () -> x.setTier(2, 5, -1));
        x.setTier(0, 1, 7);
        x.undo();
        Check.same("32: undone", x.tier(0, 1), 99);
    }

    private static void promise33() {
        SeasonTiers x = Check.of(STORE);
        Check.same("33: a load", x.undo(), 0);
        Check.same("33: as before it", Check.written(x), "a: b:");
        Check.refused("33: none", Check.STATE, x::undo);
        for (int i = 0; i < 11; i++) {
            x.setTier(0, 0, 20 + i);
        }
        for (int i = 7; i >= 0; i--) {
            Check.same("33: can still be undone", x.undo(), i);
            Check.same("33: room", x.tier(0, 0), 22 + i);
        }
        Check.refused("33: older ones", Check.STATE, x::undo);
        Check.same("33: stays", x.tier(0, 0), 22);
        for (int i = 0; i < 9; i++) {
            x.setTier(0, 0, 30 + i);
        }
        x.undo();
        x.undo();
        x.setTier(0, 0, 50);
        Check.same("33: after six and one", x.undo(), 6);
        Check.same("33: the sixth", x.tier(0, 0), 36);
        for (int i = 5; i >= 0; i--) {
            Check.same("33: down to none", x.undo(), i);
        }
        Check.same("33: the oldest of eight", x.tier(0, 0), 30);
        Check.refused("33: none again", Check.STATE, x::undo);
    }

    private interface Doing {
        void on(SeasonTiers x);
    }

    /** A store behind six changes. */
    private static SeasonTiers sixChanges() {
        SeasonTiers x = Check.of(STORE);
        x.use(1, 3);
        x.close();
        x.use(0, 2);
        x.move(1, 0);
        x.pin(0, 3);
        x.save(1);
        return x;
    }

    /** Each change is one, also if nothing is another one then, and all that it did is undone. */
    private static void eachChange() {
        Doing[] changes = {x -> x.add(1, 0), x -> x.drop(0), x -> x.drop(1), x -> x.use(0, 1), x -> x.close(), x -> x.move(1, 1),
            x -> x.unmove(), x -> x.pin(0, 3), x -> x.pin(1, 7), x -> x.act(24), x -> x.learn(3, 1), x -> x.learn(2, 4),
            x -> x.setTier(0, 0, 30), x -> x.setTier(0, 1, 3), x -> x.restore(1), x -> Check.load(x, TWO),
            x -> Check.load(x, STORE)};
        for (int i = 0; i < changes.length; i++) {
            SeasonTiers x = sixChanges();
            String before = Check.told(x);
            changes[i].on(x);
            Check.same("33: change " + i, x.undo(), 6);
            Check.same("33: undone " + i, Check.told(x), before);
        }
        Doing[] others = {x -> x.add(999, 0), x -> x.use(0, 9999), x -> x.move(0, 1), x -> x.move(1, 0), x -> x.setTier(0, 0, 1),
            x -> x.save(1), x -> x.writeTiers(), x -> x.steps(1), x -> x.append(1, 2, 3, 4, 5), x -> x.load(),
            x -> Check.load(x, TWO + "file a 1000 on hot;"), x -> x.withRoom(0, 5, 5), x -> x.wish(1, 5), x -> x.commonCycle()};
        for (int i = 0; i < others.length; i++) {
            SeasonTiers x = sixChanges();
            String before = Check.told(x);
            others[i].on(x);
            Check.same("33: what is no change " + i, Check.told(x), before);
            Check.same("33: no change " + i, x.undo(), 5);
        }
    }

    private static void notUndone() {
        SeasonTiers x = Check.of(STORE);
        x.use(0, 1);
        x.append(0x20202020, 0, 0, 0, 0);
        x.writeTiers();
        x.save(0);
        x.undo();
        Check.same("33: the buffer stays", x.append(0, 0, 0, 0, 0), 4);
        Check.same("33: the written text stays", x.writtenByte(0), 'h');
        Check.same("33: what was saved stays", x.restore(0), 0);
        Check.same("33: with the use", x.file(0, 2), 1);
        x.load();
        Check.same("33: an error", x.errorPosition(), 4);
        x.undo();
        Check.same("33: its position stays", x.errorPosition(), 4);
    }

    private static void promise34() {
        SeasonTiers x = Check.of(STORE);
        x.use(0, 4);
        x.close();
        x.move(0, 1);
        x.save(0);
        String first = Check.told(x);
        x.move(1, 0);
        x.save(1);
        String second = Check.told(x);
        x.undo();
        Check.same("34: saving is no change", Check.told(x), first);
        x.close();
        x.drop(0);
        x.drop(0);
        Check.load(x, "cycle 3;tier a 1 1 1 1 1;tier b 1 1 1 1 1;tier c 1 1 1 1 1;");
        x.restore(0);
        Check.same("34: slot 0", Check.told(x), first);
        Check.same("34: names", Check.written(x), "hot: cold:a,b");
        Check.same("34: moves that can be undone", x.unmove(), 0);
        x.restore(1);
        Check.same("34: slot 1", Check.told(x), second);
        x.save(0);
        x.close();
        x.restore(0);
        Check.same("34: in place of what was saved", Check.told(x), second);
        Check.refused("34: slot 2", Check.INDEX, () -> {
            x.save(2);
            return 0;
        });
        Check.refused("34: slot -1", Check.INDEX, () -> {
            x.save(-1);
            return 0;
        });
    }

    /** Two files of which all that can be kept is something. */
    private static SeasonTiers fullFiles() {
        SeasonTiers x = Check.of("cycle 12 rate 3;tier a 9 1 1 1 1;tier b 9 1 1 1 1;file x 1 on a;file y 2 on b;");
        for (int i = 0; i < 26; i++) {
            x.use(0, 3 + i * i);
            x.use(1, 900 - i * i);
            x.close();
        }
        return x;
    }

    /** All 24 periods and 12 seasons of all files come back. */
    private static void allThatIsKept() {
        SeasonTiers x = fullFiles();
        String before = Check.told(x);
        x.save(0);
        for (int i = 0; i < 24; i++) {
            x.close();
        }
        x.drop(0);
        x.restore(0);
        Check.same("34: all that is kept", Check.told(x), before);
        SeasonTiers y = fullFiles();
        y.learn(11, 1);
        y.undo();
        Check.same("33: all that is kept", Check.told(y), before);
        y.drop(0);
        y.undo();
        Check.same("33: both files", Check.told(y), before);
    }

    private static void promise35() {
        SeasonTiers x = Check.of(STORE);
        Check.refused("35: nothing in 0", Check.STATE, () -> x.restore(0));
        Check.refused("35: nothing in 1", Check.STATE, () -> x.restore(1));
        Check.refused("35: slot 2", Check.INDEX, () -> x.restore(2));
        Check.refused("35: slot -1", Check.INDEX, () -> x.restore(-1));
        x.close();
        x.close();
        x.save(1);
        Check.refused("35: still nothing in 0", Check.STATE, () -> x.restore(0));
        x.close();
        x.use(0, 3);
        Check.same("35: the period", x.restore(1), 2);
        Check.same("35: the uses", x.file(0, 2), 0);
        x.use(0, 9);
        x.pin(1, 5);
        Check.same("35: it stays saved", x.restore(1), 2);
        Check.same("35: as it was", x.file(0, 2) + x.file(1, 3), 0);
        // load, two closes, close, use, restore, use, pin, restore: nine, of which eight can be undone
        Check.same("35: which changes can be undone stays", x.undo(), 7);
        Check.same("35: undone", x.file(1, 3), 5);
        x.undo();
        x.undo();
        Check.same("35: the restore before", x.undo(), 4);
        Check.same("35: undone to period 3", x.count(4), 3);
        Check.same("35: and its uses", x.file(0, 2), 3);
        Check.same("35: saved all the same", x.restore(1), 2);
    }
}
