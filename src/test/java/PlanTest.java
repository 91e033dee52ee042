/** Promises 17 to 22, and what act carries out of a plan (30): costs, wishes, moves and exchanges. */
public final class PlanTest {
    private static final String TWO = "cycle 2;tier hot 100 3 1 2 1;tier cold 1000 1 5 1 2;";
    private static final String STORE = TWO + "file a 10 on hot;file b 20 on cold;";

    public static void main(String[] args) {
        promise17();
        promise18();
        promise19Moves();
        promise19Nothing();
        promise19Exchanges();
        promise19Room();
        promise19Order();
        promise19Most();
        promise20();
        promise21();
        promise22();
        promise30();
        Check.end();
    }

    /** The steps of a plan: 0>1 for a move of file 0 to tier 1, 0x2>1 for its exchange with file 2. */
    private static String plan(SeasonTiers x, int periods) {
        StringBuilder text = new StringBuilder();
        for (int i = 0; i < x.steps(periods); i++) {
            text.append(i == 0 ? "" : " ").append(x.step(periods, i, 0));
            int other = x.step(periods, i, 1);
            text.append(other == SeasonTiers.NONE ? "" : "x" + other).append('>').append(x.step(periods, i, 2));
        }
        return text.toString();
    }

    private static void planIs(String what, SeasonTiers x, int periods, String steps, long saving) {
        Check.same("19, 20: " + what, plan(x, periods), steps);
        Check.same("21: " + what, x.saving(periods), saving);
    }

    /** Uses each file so often in the period at hand, and closes it. */
    private static SeasonTiers closed(String text, int... uses) {
        SeasonTiers x = Check.of(text);
        for (int f = 0; f < uses.length; f++) {
            if (uses[f] > 0) {
                x.use(f, uses[f]);
            }
        }
        x.close();
        return x;
    }

    private static void promise17() {
        SeasonTiers x = Check.of(STORE);
        Check.same("17: keeping alone", x.cost(0, 0, 1), 30);
        Check.same("17: two periods", x.cost(0, 0, 2), 60);
        Check.same("17: on the other tier", x.cost(0, 1, 24), 240);
        SeasonTiers y = Check.of("cycle 4;tier a 10 0 1 9 9;tier b 10 3 3 9 9;file x 1 on a;file y 2 on a;");
        y.use(0, 1);
        y.use(1, 1);
        y.close();
        y.close();
        y.close();
        y.use(0, 77);
        Check.same("17: 5/16", y.cost(0, 0, 1), 0);
        Check.same("17: 21/16", y.cost(0, 0, 2), 1);
        Check.same("17: 3 + 15/16", y.cost(0, 1, 1), 3);
        Check.same("17: 6 + 30/16", y.cost(1, 1, 1), 7);
        Check.same("17: 52/16, divided once", y.cost(1, 0, 5), 3);
        Check.same("17: 24 periods", y.cost(1, 1, 24), 144 + 6 * (6 * 21) / 16);
        SeasonTiers z = closed("cycle 2;tier a 999 99 99 0 0;tier b 10 1 1 1 1;file x 999 on a;", 9999);
        Check.same("17: great costs", z.cost(0, 0, 24), 24L * 999 * 99 * 10000);
        Check.refused("17: file 2", Check.INDEX, () -> x.cost(2, 0, 1));
        Check.refused("17: file -1", Check.INDEX, () -> x.cost(-1, 0, 1));
        Check.refused("17: tier 2", Check.INDEX, () -> x.cost(0, 2, 1));
        Check.refused("17: tier -1", Check.INDEX, () -> x.cost(0, -1, 1));
        Check.refused("17: periods 0", Check.ARGUMENT, () -> x.cost(0, 0, 0));
        Check.refused("17: periods 25", Check.ARGUMENT, () -> x.cost(0, 0, 25));
        Check.refused("17: file and periods", Check.INDEX, () -> x.cost(2, 0, 25));
        Check.refused("17: tier and periods", Check.INDEX, () -> x.cost(0, 2, 0));
    }

    private static void promise18() {
        SeasonTiers x = Check.of("cycle 2;tier a 50 5 0 0 1;tier b 3 2 0 1 0;tier c 99 2 0 1 0;tier d 99 7 0 0 0;"
                + "file x 10 on a pin 9;file y 10 on c;file z 1 on d;");
        Check.same("18: the lowest of b and c, without room, pinned", x.wish(0, 1), 1);
        Check.same("18: its own", x.wish(1, 24), 2);
        Check.same("18: from d", x.wish(2, 1), 1);
        SeasonTiers y = Check.of("cycle 2;tier a 50 2 0 1 1;tier b 50 1 0 0 0;file x 10 on a;");
        Check.same("18: what saves 0 is no wish", y.wish(0, 1), 0);
        Check.same("18: two periods", y.wish(0, 2), 1);
        SeasonTiers z = closed(STORE, 3, 4);
        Check.same("18: to keep 80 or 20, with 40 to read and 80 to move", z.wish(1, 1), 0);
        Check.same("18: what saves most, not first",
                Check.of("cycle 2;tier a 9 9 0 0 0;tier b 9 5 0 0 0;tier c 9 1 0 0 0;file x 1 on a;").wish(0, 1), 2);
        Check.same("18: what saves most, not last",
                Check.of("cycle 2;tier a 9 9 0 0 0;tier b 9 1 0 0 0;tier c 9 5 0 0 0;file w 1 on b;file x 1 on a;").wish(1, 1), 1);
        Check.same("18: what saves 1",
                Check.of("cycle 2;tier a 9 2 0 0 0;tier b 9 1 0 0 0;file x 1 on a;").wish(0, 1), 1);
        Check.refused("18: file 3", Check.INDEX, () -> x.wish(3, 1));
        Check.refused("18: file -1", Check.INDEX, () -> x.wish(-1, 1));
        Check.refused("18: periods 0", Check.ARGUMENT, () -> x.wish(0, 0));
        Check.refused("18: periods 25", Check.ARGUMENT, () -> x.wish(0, 25));
        Check.refused("18: both", Check.INDEX, () -> x.wish(3, 0));
    }

    private static final String THREE = "cycle 2;tier a 99 9 0 0 0;tier b 5 1 0 0 0;tier c 99 1 0 0 0;";

    private static void promise19Moves() {
        SeasonTiers x = Check.of(THREE + "file x 5 on a;file y 5 on a;file z 6 on a;");
        planIs("what saves most first, then the lowest file, to the lowest tier", x, 1, "2>2 0>1 1>2", 128);
        planIs("24 periods", x, 24, "2>2 0>1 1>2", 24 * 128);
        x.pin(0, 1);
        planIs("without the pinned one", x, 1, "2>2 1>1", 88);
        x.close();
        planIs("when the pin has ended", x, 1, "2>2 0>1 1>2", 128);
        SeasonTiers y = Check.of("cycle 2;tier a 50 2 0 1 1;tier b 50 1 0 0 0;file x 10 on a;");
        planIs("what saves 0 is no step", y, 1, "", 0);
        planIs("what saves 10", y, 2, "0>1", 10);
        planIs("what saves 1", Check.of("cycle 2;tier a 9 2 0 0 0;tier b 9 1 0 0 0;file x 1 on a;"), 1, "0>1", 1);
        SeasonTiers z = closed("cycle 2;tier a 99 9 0 0 0;tier b 5 5 0 0 0;tier c 5 1 5 0 0;tier d 5 5 0 0 0;"
                + "file x 5 on a;file y 5 on c;", 0, 1);
        planIs("a file in a step stays there", z, 1, "0>1 1>3", 25);
    }

    private static void promise19Nothing() {
        SeasonTiers x = new SeasonTiers();
        planIs("without files", x, 24, "", 0);
        Check.refused("19: periods 0", Check.ARGUMENT, () -> x.steps(0));
        Check.refused("19: periods 25", Check.ARGUMENT, () -> x.steps(25));
        Check.refused("19: periods far", Check.ARGUMENT, () -> x.steps(Integer.MIN_VALUE));
    }

    private static void promise19Exchanges() {
        SeasonTiers x = closed("cycle 2;tier a 10 9 0 1 1;tier b 10 1 9 1 1;file x 10 on a;file y 10 on b;", 0, 10);
        planIs("an exchange", x, 1, "0x1>1", 860);
        x.pin(0, 2);
        planIs("the first one is pinned", x, 1, "", 0);
        x.pin(0, 0);
        x.pin(1, 2);
        planIs("the other one is pinned", x, 1, "", 0);
        String four = "cycle 2;tier a 10 9 0 0 0;tier b 10 1 9 0 0;file v 5 on a;file w 5 on a;file x 5 on b;file y 5 on b;";
        planIs("the lowest first file, the lowest other one", closed(four, 0, 0, 1, 1), 1, "0x2>1 1x3>1", 90);
        planIs("what saves most first", closed(four, 0, 0, 1, 2), 1, "0x3>1 1x2>1", 135);
        SeasonTiers even = closed("cycle 2;tier a 10 2 0 0 0;tier b 10 1 1 0 0;file x 10 on a;file y 10 on b;", 0, 1);
        planIs("an exchange that saves 10", even, 1, "0x1>1", 10);
        even.setTier(0, 4, 1);
        planIs("an exchange that saves 0", even, 1, "", 0);
        planIs("an exchange that saves 1",
                closed("cycle 2;tier a 1 2 0 0 0;tier b 1 1 1 0 0;file x 1 on a;file y 1 on b;", 0, 1), 1, "0x1>1", 1);
        planIs("exchanges of other tiers", closed("cycle 2;tier o 1 0 0 0 0;tier a 10 9 0 0 0;tier p 1 0 0 0 0;tier b 10 1 9 0 0;"
                + "file u 1 on o;file v 5 on a;file w 5 on b;file x 5 on a;file y 5 on b;file z 1 on p;", 0, 0, 1, 0, 2, 0),
                1, "1x4>3 2x3>1", 135);
        planIs("no exchange on one tier", closed("cycle 2;tier a 10 1 1 0 0;tier b 4 1 0 0 0;file x 5 on a;file y 5 on a;", 9, 9),
                1, "", 0);
    }

    private static void promise19Room() {
        String text = "cycle 2;tier a 10 9 0 0 0;tier b 6 1 3 0 0;file x 6 on a;file y 4 on a;file z 5 on b;";
        SeasonTiers x = closed(text, 2, 0, 9);
        planIs("an exchange with room", x, 1, "0x2>1", 107);
        x.setTier(1, 0, 5);
        planIs("the other tier has no room", x, 1, "", 0);
        x.setTier(0, 0, 11);
        planIs("room in the one tier", x, 1, "1x2>1", 127);
        x.setTier(1, 0, 6);
        planIs("room in both", x, 1, "1x2>1", 127);
        SeasonTiers y = Check.of("cycle 2;tier a 9 9 0 0 0;tier b 7 1 0 0 0;file x 3 on a;file y 2 on a;file z 2 on b;");
        planIs("room that is just enough", y, 1, "0>1 1>1", 40);
        y.setTier(1, 0, 6);
        planIs("room for one", y, 1, "0>1", 24);
        y.setTier(1, 0, 4);
        planIs("room for the smaller one", y, 1, "1>1", 16);
        y.setTier(1, 0, 3);
        planIs("room for the greater one in exchange", y, 1, "0x2>1", 8);
        y.setTier(1, 0, 2);
        planIs("no room", y, 1, "", 0);
    }

    private static void promise19Order() {
        SeasonTiers x = closed("cycle 2;tier a 10 9 0 0 0;tier b 10 1 9 0 0;tier c 10 8 9 0 0;file x 10 on a;file y 10 on b;", 0, 10);
        planIs("a move ahead of the exchange that saves more", x, 1, "0>2 1>0", 830);
        SeasonTiers y = closed("cycle 2;tier a 11 9 0 99 0;tier b 6 1 3 0 0;tier c 9 20 99 99 0;"
                + "file w 5 on a;file x 4 on a;file y 6 on b;file z 1 on c;", 0, 0, 100, 0);
        planIs("a move that an exchange makes room for", y, 1, "0x2>1 3>1", 1217);
    }

    /** 20 files on 4 tiers: each file in a step, each row and each place used. */
    private static void promise19Most() {
        StringBuilder text = new StringBuilder("cycle 2;tier a 99 9 0 0 0;tier b 99 9 0 0 0;tier c 99 9 0 0 0;tier d 210 2 0 0 0;");
        StringBuilder due = new StringBuilder();
        long saving = 0;
        for (int i = 0; i < 20; i++) {
            text.append("file ").append((char) ('a' + i)).append(' ').append(20 - i).append(" on ").append("abc".charAt(i % 3)).append(';');
            due.append(i == 0 ? "" : " ").append(i).append(">3");
            saving += 7 * (20 - i);
        }
        SeasonTiers x = Check.of(text.toString());
        planIs("20 moves", x, 1, due.toString(), saving);
        Check.same("18: the last file", x.wish(19, 24), 3);
        Check.same("5: none of 20 is pinned", x.count(5), 0);
        Check.same("22: with all that room", x.withRoom(3, 9, 1), 0);
        Check.same("22: with less", x.setTier(3, 0, 209) + x.withRoom(3, 1, 1), 210 + 7);
        x.setTier(3, 0, 1);
        Check.same("19: room for the least one", plan(x, 1), "19>3");
        x.setTier(3, 0, 210);
        x.learn(3, 4);
        x.close();
        Check.same("6: of 20 files", x.tier(2, 7), 2);
        Check.same("30: all 20", x.act(1), 20);
        Check.same("30: no more", x.steps(24), 0);
        for (int i = 20; i > 0; i--) {
            Check.same("24: the first of 20", x.drop(0), i - 1);
            Check.same("24: the moves of the others", x.count(6), i - 1);
        }
        for (int i = 0; i < 20; i++) {
            Check.same("23: 20 files again", x.add(i + 1, 3), i);
        }
        for (int i = 0; i < 20; i++) {
            Check.same("23: each one by itself", x.file(i, 0), i + 1);
            x.use(i, i + 1);
        }
        for (int i = 0; i < 20; i++) {
            Check.same("25: each one by itself", x.file(i, 2), i + 1);
        }
    }

    private static void promise20() {
        SeasonTiers x = Check.of(THREE + "file x 5 on a;file y 5 on a;file z 6 on a;");
        Check.same("20: ahead of any other call", x.step(1, 0, 0), 2);
        Check.same("20: of another plan", x.step(24, 2, 2), 2);
        x.pin(2, 1);
        Check.same("20: planned anew", x.step(1, 0, 0), 0);
        x.pin(2, 0);
        Check.refused("20: step 3", Check.INDEX, () -> x.step(1, 3, 0));
        Check.refused("20: step -1", Check.INDEX, () -> x.step(1, -1, 0));
        Check.refused("20: step far", Check.INDEX, () -> x.step(1, Integer.MAX_VALUE, 0));
        Check.refused("20: what 3", Check.ARGUMENT, () -> x.step(1, 0, 3));
        Check.refused("20: what -1", Check.ARGUMENT, () -> x.step(1, 0, -1));
        Check.refused("20: periods 0", Check.ARGUMENT, () -> x.step(0, 0, 0));
        Check.refused("20: periods 25", Check.ARGUMENT, () -> x.step(25, 0, 0));
        Check.refused("20: periods and step", Check.ARGUMENT, () -> x.step(25, 3, 0));
        Check.refused("20: what and step", Check.ARGUMENT, () -> x.step(1, 3, 3));
        Check.same("20: a plan changes nothing", Check.written(x), "a:x,y,z b: c:");
        SeasonTiers y = new SeasonTiers();
        y.add(1, 0);
        Check.refused("20: nothing to do", Check.INDEX, () -> y.step(24, 0, 0));
        Check.same("20: a plan is no change", y.undo(), 0);
    }

    private static void promise21() {
        SeasonTiers x = new SeasonTiers();
        Check.refused("21: periods 0", Check.ARGUMENT, () -> x.saving(0));
        Check.refused("21: periods 25", Check.ARGUMENT, () -> x.saving(25));
        SeasonTiers y = closed("cycle 2;tier a 9999 99 99 0 0;tier b 9999 0 0 0 0;file x 999 on a;file y 999 on a;", 9999, 9999);
        Check.same("21: great savings", y.saving(24), 2L * 24 * 999 * 99 * 10000);
    }

    private static void promise22() {
        SeasonTiers x = closed("cycle 2;tier a 20 0 1 0 0;tier b 4 0 0 0 0;file p 2 on a;file q 2 on a;file r 5 on a;", 3, 3, 2);
        planIs("two files", x, 1, "0>1 1>1", 12);
        Check.same("22: no more room", x.withRoom(1, 0, 1), 0);
        Check.same("22: the greater one, which saves less", x.withRoom(1, 1, 1), -2);
        Check.same("22: two of them", x.withRoom(1, 3, 1), 4);
        Check.same("22: all of them", x.withRoom(1, 5, 1), 10);
        Check.same("22: far more room", x.withRoom(1, 99999, 1), 10);
        Check.same("22: two periods", x.withRoom(1, 5, 2), 20);
        Check.same("22: room elsewhere", x.withRoom(0, 5, 1), 0);
        Check.same("22: the room itself stays", x.tier(1, 0), 4);
        planIs("after that", x, 1, "0>1 1>1", 12);
        Check.refused("22: tier 2", Check.INDEX, () -> x.withRoom(2, 0, 1));
        Check.refused("22: tier -1", Check.INDEX, () -> x.withRoom(-1, 0, 1));
        Check.refused("22: more -1", Check.ARGUMENT, () -> x.withRoom(0, -1, 1));
        Check.refused("22: more 100000", Check.ARGUMENT, () -> x.withRoom(0, 100000, 1));
        Check.refused("22: periods 0", Check.ARGUMENT, () -> x.withRoom(0, 0, 0));
        Check.refused("22: periods 25", Check.ARGUMENT, () -> x.withRoom(0, 0, 25));
        Check.refused("22: all", Check.INDEX, () -> x.withRoom(2, -1, 0));
        SeasonTiers y = Check.of("cycle 2;tier a 99999 9 0 0 0;tier b 99999 0 0 0 0;file p 2 on a;");
        Check.same("22: beyond the greatest room", y.withRoom(1, 99999, 1), 0);
    }

    private static void promise30() {
        SeasonTiers x = Check.of(THREE + "file x 5 on a;file y 5 on a;file z 6 on a;");
        x.setTier(0, 4, 2);
        x.setTier(2, 3, 1);
        Check.same("30: three moves", x.act(2), 3);
        Check.same("30: where they are", Check.written(x), "a: b:x c:y,z");
        Check.same("30: moving out", x.account(0, 2), 2 * 16);
        Check.same("30: moving in", x.account(2, 2), 11);
        Check.same("30: the moves can be undone", x.count(6), 3);
        Check.same("30: the latest step first", x.unmove(), 1);
        Check.same("30: the first step last", x.unmove(), 0);
        Check.same("30: the first step", x.unmove(), 2);
        Check.same("30: nothing was paid", x.account(SeasonTiers.NONE, 2), 0);
        SeasonTiers y = closed("cycle 2;tier a 20 9 0 1 2;tier b 20 1 9 3 4;file w 10 on a pin 9;file x 10 on a;file y 10 on b;file z 10 on b;",
                0, 0, 10, 0);
        planIs("an exchange", y, 1, "1x2>1", 80 - 50 + 900 - 80 - 50);
        Check.same("30: an exchange moves two", y.act(1), 2);
        Check.same("30: the exchange", Check.written(y), "a:w,y b:x,z");
        Check.same("30: its cost", y.account(SeasonTiers.NONE, 2), 100);
        Check.same("30: two moves", y.count(6), 2);
        Check.same("30: room is asked for each", y.unmove(), -15);
        y.setTier(1, 0, 30);
        Check.same("30: the other file first", y.unmove(), 2);
        Check.same("30: the first file last", y.unmove(), 1);
        Check.same("30: all is back", Check.written(y), "a:w,x b:y,z");
        y.undo();
        y.undo();
        y.undo();
        y.undo();
        Check.same("30: one change", Check.written(y), "a:w,x b:y,z");
        Check.refused("30: periods 0", Check.ARGUMENT, () -> y.act(0));
        Check.refused("30: periods 25", Check.ARGUMENT, () -> y.act(25));
        SeasonTiers z = new SeasonTiers();
        Check.same("30: no plan", z.act(24), 0);
        Check.same("30: a change all the same", z.undo(), 0);
    }
}
