/** The boundary cases that the document's terms name, sentence by sentence, and its constants. */
public final class EdgeTermsTest extends Edges {
    private static final String SPACES = " ".repeat(600);

    public static void main(String[] args) {
        lifetime();
        tiersAndFiles();
        periods();
        seasons();
        keptAndCycles();
        closing();
        movesAndAccount();
        planCosts();
        planMoves();
        planExchanges();
        grammar();
        tokens();
        numbersOfTexts();
        errors();
        otherErrors();
        changes();
        refusals();
        refusalsChangeNothing();
        exceptions();
        constants();
        allSaid();
        Check.end();
    }

    private static void lifetime() {
        section("What it is");
        says("Tiers of storage", () -> is(new SeasonTiers().count(2), 2));
        says("An object is used for at most 512 calls", () -> {
            SeasonTiers x = new SeasonTiers();
            x.add(1, 0);
            x.add(2, 1);
            close(x, 506);
            is(x.account(0, 0), 506);
            is(x.kept(1, 23), 0);
            is(x.undo(), 7);
            is(x.count(4), 505);
        });
    }

    private static void tiersAndFiles() {
        section("1. TIERS, FILES, PERIODS");
        says("There are 2 to 4 tiers, numbered from 0 as they are told", () -> {
            syntax("cycle 2;tier a 10 1 1 1 1;|");
            is(Check.of(TIERS).count(2), 2);
            is(Check.of(FOUR).count(2), 4);
            error(SeasonTiers.TOO_MANY, FOUR + "|tier e 10 1 1 1 1;");
            SeasonTiers x = Check.of("cycle 2;tier d 11 1 1 1 1;tier c 12 1 1 1 1;tier b 13 1 1 1 1;tier a 14 1 1 1 1;");
            for (int t = 0; t < 4; t++) {
                is(x.tier(t, 0), 11 + t);
            }
            index(() -> x.tier(4, 0));
            index(() -> x.tier(-1, 0));
        });
        says("each with a room (1 to 99999 units)", () -> {
            value("cycle 2;tier a |0 1 1 1 1;tier b 1 1 1 1 1;");
            value("cycle 2;tier a |100000 1 1 1 1;tier b 1 1 1 1 1;");
            value("cycle 2;tier a 1 1 1 1 1;tier b |0 1 1 1 1;");
            value("cycle 2;tier a 1 1 1 1 1;tier b |100000 1 1 1 1;");
            SeasonTiers x = Check.of("cycle 2;tier a 1 1 1 1 1;tier b 99999 1 1 1 1;");
            is(x.tier(0, 0), 1);
            is(x.tier(1, 0), 99999);
        });
        says("and four costs for each unit of size (0 to 99)", () -> {
            for (int place = 1; place <= 4; place++) {
                for (int cost : new int[] {0, 99, 100}) {
                    String[] costs = {"", "1", "2", "3", "4"};
                    costs[place] = (cost > 99 ? "|" : "") + cost;
                    String text = "cycle 2;tier a 9" + String.join(" ", costs) + ";tier b 1 1 1 1 1;";
                    if (cost > 99) {
                        value(text);
                    } else {
                        is(Check.of(text).tier(0, place), cost);
                    }
                }
            }
        });
        says("of keeping for a period, of reading for each use, of moving in, of moving out", () -> {
            SeasonTiers x = Check.of("cycle 2;tier a 9 2 30 1 1;tier b 9 1 1 40 1;tier c 9 1 1 1 50;file x 1 on a;");
            x.use(0, 2);
            is(x.close(), 2 + 60);
            is(x.move(0, 1), 1 + 40);
            is(x.move(0, 2), 1 + 1);
            is(x.move(0, 0), 50 + 1);
        });
        says("There are at most 20 files, numbered from 0 as they are told", () -> {
            is(withFiles(20).count(3), 20);
            error(SeasonTiers.TOO_MANY, filesText(20) + "|file u 1 on a;");
            SeasonTiers x = withFiles(19);
            is(x.add(2, 0), 19);
            is(x.add(2, 0), -11);
            is(x.file(19, 0), 2);
            index(() -> x.file(20, 0));
            SeasonTiers y = Check.of(TIERS + "file c 3 on a;file b 4 on b;file a 5 on a;");
            for (int f = 0; f < 3; f++) {
                is(y.file(f, 0), 3 + f);
            }
        });
        says("each with a size (1 to 999 units) and on one tier", () -> {
            value(TIERS + "file x |0 on a;");
            value("cycle 2;tier a 9999 1 1 1 1;tier b 1 1 1 1 1;file x |1000 on a;");
            SeasonTiers x = Check.of("cycle 2;tier a 9999 1 1 1 1;tier b 1 1 1 1 1;file x 999 on a;file y 1 on b;");
            is(x.file(0, 0), 999);
            is(x.file(1, 0), 1);
            argument(() -> x.add(0, 0));
            argument(() -> x.add(1000, 0));
            is(x.tier(0, 6) + x.tier(1, 6), 2);
        });
        says("the sizes of all files on a tier are never more than its room", EdgeTermsTest::neverMoreThanRoom);
    }

    /** Each way of a file to a tier, with just enough room and with one unit less. */
    private static void neverMoreThanRoom() {
        loads(TIERS + "file x 4 on a;file y 6 on a;", "a:x,y b:");
        error(SeasonTiers.NO_ROOM, TIERS + "file x 4 on a;file y 7 on |a;");
        SeasonTiers x = Check.of(TIERS + "file x 4 on a;file y 7 on b;");
        is(x.add(7, 0), -15);
        is(x.add(6, 0), 2);
        is(x.move(0, 1), -15);
        is(x.setTier(1, 0, 11), 10);
        is(x.move(0, 1), 4 * 2);
        is(x.setTier(1, 0, 10), -15);
        is(x.tier(1, 5), 11);
        is(x.add(4, 0), 3);
        is(x.add(1, 0), -15);
        is(x.unmove(), -15);
        x.drop(3);
        is(x.add(3, 0), 3);
        is(x.unmove(), -15);
        x.drop(3);
        is(x.unmove(), 0);
        is(x.tier(0, 5), 10);
        SeasonTiers y = Check.of("cycle 2;tier a 99 9 0 0 0;tier b 7 1 0 0 0;file x 4 on a;file y 4 on a;file z 3 on a;");
        is(y.act(24), 2);
        is(y.tier(1, 5), 7);
        is(y.act(24), 0);
    }

    private static void periods() {
        section("1. TIERS, FILES, PERIODS");
        says("Periods are numbered from 0; | the period at hand is number 0 at first", () -> {
            SeasonTiers x = new SeasonTiers();
            is(x.count(4), 0);
            x.close();
            is(x.count(4), 1);
            Check.load(x, TIERS);
            is(x.count(4), 0);
        });
        says("The cycle is a number of periods (2 to 12)", () -> {
            value("cycle |1;");
            value("cycle |13;");
            is(Check.of(TIERS).count(0), 2);
            SeasonTiers x = Check.of(TIERS.replace("cycle 2", "cycle 12"));
            is(x.count(0), 12);
            argumentBeside(2, 12, n -> x.learn(n, 4));
            is(x.learn(2, 4), 12);
            is(x.learn(12, 4), 2);
        });
        says("the phase of a period is the remainder of its number by the cycle", () -> {
            for (int cycle : new int[] {2, 3, 11, 12}) {
                SeasonTiers x = used("cycle " + cycle + " rate 8");
                for (int period = 0; period < 2 * cycle + 1; period++) {
                    use(x, period + 1);
                    is(x.season(0, period % cycle), 16 * (period + 1));
                    is(x.file(0, 7), Math.min(period + 1, cycle));
                }
                is(x.forecast(0, 0), 16 * (cycle + 2));
            }
        });
        says("The rate is a number from 1 to 8", () -> {
            value("cycle 2 rate |0;");
            value("cycle 2 rate |9;");
            is(Check.of(TIERS.replace("2;", "2 rate 1;")).count(1), 1);
            SeasonTiers x = Check.of(TIERS.replace("2;", "2 rate 8;"));
            is(x.count(1), 8);
            argumentBeside(1, 8, n -> x.learn(2, n));
            x.learn(2, 1);
            is(x.count(1), 1);
            x.learn(2, 8);
            is(x.count(1), 8);
        });
        says("A file can be used in the period at hand, at most 9999 times", () -> {
            SeasonTiers x = Check.of(STORE);
            is(x.use(0, 9998), 9998);
            is(x.use(0, 2), -18);
            is(x.use(0, 1), 9999);
            is(x.use(0, 1), -18);
            is(x.use(1, 9999), 9999);
            x.close();
            is(x.use(0, 9999), 9999);
        });
        says("it cannot be moved as long as the period at hand is ahead of that one", () -> {
            SeasonTiers x = Check.of(STORE.replace("on hot", "on hot pin 2"));
            is(x.move(0, 1), -13);
            x.close();
            is(x.move(0, 1), -13);
            is(x.file(0, 4), 1);
            x.close();
            is(x.file(0, 4), 0);
            is(x.move(0, 1), 20);
            SeasonTiers y = Check.of(STORE.replace("on hot", "on hot pin 0"));
            is(y.move(0, 1), 20);
        });
    }

    private static void seasons() {
        section("2. SEASONS AND FORECASTS");
        says("For each phase a file has a season, in sixteenths of a use; it is unknown until the file was there at the close", () -> {
            SeasonTiers x = used("cycle 3");
            for (int phase = 0; phase < 3; phase++) {
                is(x.season(0, phase), NONE);
            }
            x.use(0, 1);
            is(x.season(0, 0), NONE);
            x.close();
            is(x.season(0, 0), 16);
            is(x.season(0, 1), NONE);
            x.add(1, 0);
            x.close();
            is(x.season(1, 0), NONE);
            is(x.season(1, 1), 0);
            is(x.season(1, 2), NONE);
        });
        says("the season of its phase becomes 16 times u, if it was unknown", () -> {
            is(used("cycle 2 rate 1", 0).season(0, 0), 0);
            is(used("cycle 2 rate 1", 1).season(0, 0), 16);
            is(used("cycle 2 rate 1", 9999).season(0, 0), 159984);
            is(used("cycle 2 rate 1", 0, 0, 1).season(0, 0), 2);
        });
        says("greater by (16 times u minus the season) times the rate divided by 8, cut off toward 0", () -> {
            is(used("cycle 2 rate 1", 1, 0, 0).season(0, 0), 14);
            is(used("cycle 2 rate 1", 1, 0, 0, 0, 0).season(0, 0), 13);
            is(used("cycle 2 rate 3", 0, 0, 1, 0, 0).season(0, 0), 4);
            is(used("cycle 2 rate 3", 0, 0, 1, 0, 1).season(0, 0), 9);
            is(used("cycle 2 rate 8", 7, 0, 0).season(0, 0), 0);
            is(used("cycle 2 rate 8", 0, 0, 9999).season(0, 0), 159984);
            is(used("cycle 2 rate 7", 9999, 0, 0).season(0, 0), 159984 - 139986);
            // From 7 on a rate of 1 takes nothing off any more.
            is(used("cycle 2 rate 1", 1, 0, 0, 0, 0, 0, 0, 0, 0, 0, 0, 0, 0, 0, 0, 0, 0, 0, 0, 0, 0).season(0, 0), 7);
        });
        says("The forecast of a file for a period is the season of its phase", () -> {
            SeasonTiers x = used("cycle 2", 0, 5);
            is(x.forecast(0, 0), 0);
            is(x.forecast(0, 1), 80);
        });
        says("the mean, rounded down, of all seasons that are known, or 0 without any", () -> {
            is(used("cycle 4").forecast(0, 0), 0);
            is(used("cycle 4", 3).forecast(0, 0), 48);
            is(used("cycle 4", 1, 0, 0).forecast(0, 0), 5);
            is(used("cycle 4", 1, 1, 0).forecast(0, 0), 10);
            is(used("cycle 12", 9999, 9999, 9999, 9999, 9999, 9999, 9999, 9999, 9999, 9999, 9998).forecast(0, 0), 159982);
        });
        says("If the cycle or the rate is set anew, the seasons of all files become unknown and are learned again", () -> {
            SeasonTiers x = used("cycle 2 rate 8");
            x.learn(3, 1);
            is(x.season(0, 0), NONE);
            x.add(1, 1);
            use(x, 3, 5, 7, 9, 4);
            is(x.learn(12, 8), 3);
            is(x.file(0, 7), 5);
            is(x.file(1, 7), 5);
            is(x.season(0, 5), NONE);
            is(x.season(0, 4), 64);
            x.learn(2, 4);
            is(x.season(0, 0), (48 + 112) / 2 - 8);
            x.learn(2, 8);
            is(x.season(0, 0), 64);
            is(x.season(0, 1), 144);
        });
    }

    private static void keptAndCycles() {
        section("2. SEASONS AND FORECASTS");
        says("the uses of the latest 24 periods that it was there at the close of are kept", () -> {
            SeasonTiers x = used("cycle 2");
            is(x.file(0, 5), 0);
            for (int i = 1; i <= 26; i++) {
                use(x, i);
                is(x.file(0, 5), Math.min(i, 24));
                is(x.kept(0, 0), Math.max(1, i - 23));
                is(x.kept(0, Math.min(i, 24) - 1), i);
            }
            index(() -> x.kept(0, 24));
        });
        says("for each number c from 2 to 12 for which at least c + 1 periods are kept", () -> {
            is(used("cycle 2", 5, 5).cycleOf(0), NONE);
            is(used("cycle 2", 5, 5, 9).cycleOf(0), 2);
            is(used("cycle 2", 1, 9, 9, 1).cycleOf(0), 3);
            is(used("cycle 2", 9, 0, 0, 0, 0, 0, 0, 0, 0, 0, 0, 9).cycleOf(0), 11);
            is(used("cycle 2", 9, 0, 0, 0, 0, 0, 0, 0, 0, 0, 0, 0, 9).cycleOf(0), 12);
            is(used("cycle 2", 9, 0, 0, 0, 0, 0, 0, 0, 0, 0, 0, 0, 0, 9).cycleOf(0), 2);
        });
        says("its strangeness is the sum of how much the uses of each two kept periods that are c periods apart differ", () -> {
            // c 2: 4 and 4 of two pairs, c 3: 5 of one; then 4 and 6, and 3; then 4 and 6, and 5
            is(used("cycle 2", 0, 9, 4, 5).cycleOf(0), 2);
            is(used("cycle 2", 0, 9, 4, 3).cycleOf(0), 3);
            is(used("cycle 2", 4, 3, 0, 9).cycleOf(0), 2);
        });
        says("divided by how many such pairs there are (not rounded)", () -> {
            // c 2: 1 of two pairs, c 3: 0 of one
            is(used("cycle 2", 5, 6, 5, 5).cycleOf(0), 3);
            // c 2: 3 of two pairs, c 3: 2 of one
            is(used("cycle 2", 0, 0, 1, 2).cycleOf(0), 2);
            // c 2: 5 of two pairs, c 3: 2 of one
            is(used("cycle 2", 0, 0, 3, 2).cycleOf(0), 3);
        });
        says("The own cycle is the number with the least strangeness, of several the least number", () -> {
            is(used("cycle 2", 3, 3, 3, 3, 3, 3, 3).cycleOf(0), 2);
            is(used("cycle 2", 1, 0, 0, 1, 0, 0, 1).cycleOf(0), 3);
            // c 2: 2 of two pairs, c 3: 1 of one
            is(used("cycle 2", 0, 2, 1, 1).cycleOf(0), 2);
        });
    }

    private static void closing() {
        section("3. COSTS");
        says("the forecast for this period is scored, if a season of the file is known", () -> {
            SeasonTiers x = used("cycle 3", 4);
            is(x.file(0, 6), 0);
            is(x.off(0), 0);
            use(x, 4);
            is(x.file(0, 6), 1);
            is(x.off(0), 0);
            SeasonTiers y = used("cycle 2", 0, 3);
            is(y.file(0, 6), 1);
            is(y.off(0), 48);
        });
        says("how far off it is, is the size of (16 times its uses minus the forecast)", () -> {
            is(used("cycle 2", 4, 1).off(0), 48);
            is(used("cycle 2", 1, 4).off(0), 48);
            is(used("cycle 2", 4, 4).off(0), 0);
            is(used("cycle 2", 9999, 0).off(0), 159984);
            is(used("cycle 2", 0, 9999).off(0), 159984);
        });
        says("Then its keeping costs its size times the cost of keeping on its tier", () -> {
            SeasonTiers x = Check.of("cycle 2;tier a 999 99 99 1 1;tier b 999 0 0 1 1;file x 999 on a;file y 999 on b;");
            is(x.close(), 999 * 99);
            x.use(0, 1);
            x.use(1, 9999);
            is(x.close(), 999 * 99 * 2);
            x.use(0, 9999);
            is(x.close(), 999L * 99 * 10000);
            is(x.account(0, 0), 3 * 999 * 99);
            is(x.account(0, 1), 999L * 99 * 10000);
            is(x.account(1, 3), 0);
        });
        says("Then its season is learned and its uses are kept; its uses in the period at hand are 0.", () -> {
            SeasonTiers x = Check.of(STORE);
            x.use(0, 9999);
            x.close();
            is(x.season(0, 0), 159984);
            is(x.season(1, 0), 0);
            is(x.kept(0, 0), 9999);
            is(x.kept(1, 0), 0);
            is(x.file(0, 2), 0);
        });
        says("At last the number of the period becomes one more, and moves that were made cannot be undone any more.", () -> {
            SeasonTiers x = Check.of(STORE.replace("on hot", "on hot pin 1"));
            x.move(1, 0);
            is(x.count(6), 1);
            x.close();
            is(x.count(4), 1);
            is(x.file(0, 4), 0);
            is(x.count(6), 0);
            is(x.unmove(), -16);
            is(x.file(1, 1), 0);
        });
    }

    private static void movesAndAccount() {
        section("3. COSTS");
        says("Only the latest 60 moves of the period at hand can be undone; older ones are forgotten.", () -> {
            for (int moves : new int[] {59, 60, 61, 62}) {
                SeasonTiers x = Check.of("cycle 2;tier a 9 0 0 1 0;tier b 9 0 0 0 0;file x 1 on a;");
                for (int i = 0; i < moves; i++) {
                    x.move(0, 1 - i % 2);
                }
                is(x.count(6), Math.min(moves, 60));
                for (int i = 0; i < Math.min(moves, 60); i++) {
                    is(x.unmove(), 0);
                }
                is(x.unmove(), -16);
                is(x.file(0, 1), moves > 60 ? moves % 2 : 0);
                is(x.account(0, 2), moves > 61 ? 1 : 0);
            }
        });
        says("costs its size times the sum of the cost of moving out of the one and of that of moving into the other", () -> {
            SeasonTiers x = Check.of("cycle 2;tier a 999 1 1 99 99;tier b 999 1 1 99 99;tier c 999 1 1 0 0;file x 999 on a;");
            is(x.move(0, 1), 999 * 198);
            is(x.move(0, 2), 999 * 99);
            is(x.move(0, 0), 999 * 99);
        });
        says("The account has the sums of all costs of keeping, of reading and of moving, of each tier", () -> {
            SeasonTiers x = Check.of(STORE);
            is(x.account(NONE, 3), 0);
            x.move(0, 1);
            is(x.account(0, 2), 10);
            is(x.account(1, 2), 10);
            is(x.account(NONE, 2), 20);
            x.use(1, 2);
            x.close();
            is(x.account(0, 3), 10);
            is(x.account(1, 0), 30);
            is(x.account(1, 1), 200);
            is(x.account(NONE, 3), 250);
        });
    }

    private static void planCosts() {
        section("4. PLANS");
        says("A plan is for a number of periods h (1 to 24)", () -> periodNumbers((x, h) -> x.cost(0, 0, h) + x.wish(0, h) + x.steps(h)));
        says("the first one being the period at hand (uses of it that were counted already do not matter)", () -> {
            SeasonTiers x = used("cycle 2", 0, 2);
            is(x.cost(0, 0, 1), 1);
            is(x.cost(0, 0, 2), 4);
            x.use(0, 9999);
            is(x.cost(0, 0, 1), 1);
            x.close();
            is(x.cost(0, 0, 1), 3);
        });
        says("(only this product is divided, rounded down)", () -> {
            SeasonTiers x = Check.of("cycle 3 rate 8;tier a 99 1 1 0 0;tier b 99 0 3 0 0;file x 1 on a;file y 5 on a;");
            x.use(0, 1);
            x.use(1, 1);
            x.close();
            x.close();
            // the forecasts are 8, 16, 0, 8, ..
            is(x.cost(0, 0, 1), 1);
            is(x.cost(0, 1, 1), 1);
            is(x.cost(0, 0, 2), 2 + 1);
            is(x.cost(0, 1, 2), 72 / 16);
            is(x.cost(1, 0, 1), 5 + 40 / 16);
            is(x.cost(1, 1, 1), 120 / 16);
            is(x.cost(1, 1, 24), 5 * 3 * 24 * 8 / 16);
        });
        says("minus what it costs on the other one minus what the move costs", () -> {
            SeasonTiers x = Check.of("cycle 2;tier a 99 9 0 50 1;tier b 99 1 0 2 50;file x 1 on a;");
            planIs(x, 1, "0>1", 9 - 1 - 1 - 2);
            planIs(x, 24, "0>1", 24 * 9 - 24 - 1 - 2);
        });
    }

    private static void planMoves() {
        section("4. PLANS");
        says("of all files that are not pinned and are in no step of the plan yet", () -> {
            SeasonTiers x = Check.of("cycle 2;tier a 99 9 0 0 0;tier b 99 1 0 0 0;file x 5 on a pin 1;file y 4 on a;");
            planIs(x, 1, "1>1", 32);
            x.close();
            planIs(x, 1, "0>1 1>1", 72);
            x.pin(0, 2);
            x.pin(1, 2);
            planIs(x, 1, "", 0);
            // Where y goes there is no room for it at first; x came there first, and does not go on.
            SeasonTiers y = Check.of("cycle 2;tier a 5 9 0 0 0;tier b 5 5 0 0 0;tier c 5 4 0 9 0;file x 5 on a;");
            planIs(y, 1, "0>1", 20);
        });
        says("and all other tiers with room for them", () -> {
            SeasonTiers x = Check.of("cycle 2;tier a 99 9 0 0 0;tier b 6 1 0 0 0;tier c 99 3 0 0 0;file x 6 on a;");
            planIs(x, 1, "0>1", 48);
            x.setTier(1, 0, 5);
            planIs(x, 1, "0>2", 36);
            // The second file fits only where the first one was.
            SeasonTiers y = Check.of("cycle 2;tier a 5 2 0 0 0;tier b 5 1 0 0 0;tier c 5 9 0 9 0;file x 5 on a;file y 5 on c;");
            planIs(y, 1, "1>1", 40);
            y.setTier(0, 1, 99);
            planIs(y, 1, "0>1", 490);
            y.setTier(2, 1, 80);
            planIs(y, 1, "0>1", 490);
            y.setTier(0, 2, 0);
            y.setTier(0, 1, 60);
            y.setTier(2, 1, 99);
            planIs(y, 1, "1>1", 490);
            y.drop(1);
            y.add(4, 2);
            y.setTier(0, 1, 90);
            planIs(y, 1, "0>1 1>0", 445 + 36);
        });
        says("the move that saves most, if it saves more than 0; of several that of the lowest file, of these to the lowest tier.", () -> {
            SeasonTiers x = Check.of("cycle 2;tier a 99 2 0 0 1;tier b 99 1 0 0 0;file x 1 on a;");
            planIs(x, 1, "", 0);
            planIs(x, 2, "0>1", 1);
            planIs(x, 3, "0>1", 2);
            planIs(Check.of("cycle 2;tier a 99 3 0 0 0;tier b 3 1 0 0 0;tier c 3 1 0 0 0;file x 3 on a;file y 3 on a;file z 2 on a;"),
                    1, "0>1 1>2", 12);
            planIs(Check.of("cycle 2;tier a 99 3 0 0 0;tier b 3 1 0 0 0;tier c 3 0 0 0 0;file x 2 on a;file y 3 on a;"),
                    1, "1>2 0>1", 13);
        });
        says("If there is none either, the plan ends.", () -> {
            planIs(new SeasonTiers(), 24, "", 0);
            planIs(withFiles(0), 24, "", 0);
            is(withFiles(20).steps(24), 20);
            SeasonTiers x = withFiles(20);
            x.act(24);
            planIs(x, 24, "", 0);
        });
    }

    private static void planExchanges() {
        section("4. PLANS");
        says("If there is no such move: of all pairs of such files on two tiers, with room for both in exchange", () -> {
            String text = "cycle 2;tier a 6 9 0 0 0;tier b 5 1 9 0 0;file x 5 on a;file y 4 on b;";
            SeasonTiers x = Check.of(text);
            x.use(1, 2);
            x.close();
            planIs(x, 1, "0x1>1", 5 * 8 + 4 * 10);
            x.setTier(1, 0, 4);
            planIs(x, 1, "", 0);
            x.setTier(1, 0, 5);
            x.setTier(0, 0, 5);
            planIs(x, 1, "0x1>1", 80);
            x.pin(0, 2);
            planIs(x, 1, "", 0);
            x.pin(0, 1);
            x.pin(1, 2);
            planIs(x, 1, "", 0);
            SeasonTiers y = Check.of(text.replace("a 6", "a 4").replace("x 5", "x 4").replace("y 4", "y 5"));
            y.use(1, 2);
            y.close();
            planIs(y, 1, "", 0);
            y.setTier(0, 0, 5);
            planIs(y, 1, "0x1>1", 4 * 8 + 5 * 10);
            planIs(Check.of("cycle 2;tier a 9 9 0 0 0;tier b 3 1 0 0 0;file x 5 on a;file y 4 on a;"), 1, "", 0);
        });
        says("the exchange that saves most (both moves together), if it saves more than 0", () -> {
            SeasonTiers x = Check.of("cycle 2;tier a 1 3 0 0 0;tier b 1 1 1 0 0;file x 1 on a;file y 1 on b;");
            x.use(1, 1);
            x.close();
            planIs(x, 1, "0x1>1", 1);
            x.setTier(0, 3, 1);
            planIs(x, 1, "", 0);
            planIs(x, 2, "0x1>1", 1);
        });
        says("of several that with the lowest first file, of these with the lowest other one", () -> {
            String text = "cycle 2;tier a 10 9 0 0 0;tier b 10 1 9 0 0;file v 5 on a;file w 5 on b;file x 5 on a;file y 5 on b;";
            SeasonTiers x = Check.of(text);
            x.use(1, 2);
            x.use(3, 2);
            x.close();
            planIs(x, 1, "0x1>1 2x3>1", 4 * 45);
            SeasonTiers y = Check.of(text);
            y.use(1, 2);
            y.use(3, 3);
            y.close();
            planIs(y, 1, "0x3>1 1x2>0", 5 * (8 + 19 + 8 + 10));
        });
    }

    private static void grammar() {
        section("5. TEXTS");
        says("A store is read from a text of at most 600 bytes:", () -> {
            loads(SPACES.substring(TIERS.length()) + TIERS, "a: b:");
            loads(TIERS + SPACES.substring(TIERS.length()), "a: b:");
            SeasonTiers x = new SeasonTiers();
            is(Check.feed(x, TIERS + SPACES.substring(TIERS.length())), 600);
            state(() -> x.append(0, 0, 0, 0, 0x20));
            is(x.load(), 0);
        });
        says("text = \"cycle\" N [ \"rate\" N ] \";\" tier tier { tier }", () -> {
            syntax("|");
            syntax("|rate 2;");
            syntax("cycle 2 |3;");
            syntax("cycle 2;|");
            syntax("cycle 2;|;");
            syntax(TIERS + "|;");
            syntax(TIERS + "file x 1 on a;|tier c 1 1 1 1 1;");
            syntax(TIERS + "file x 1 on a|");
            syntax(TIERS + "file x 1 on a pin 1|");
            syntax(TIERS + "file x 1 on a |1;");
            syntax(TIERS + "file x |on a;");
        });
        says("tier = \"tier\" NAME N N N N N \";\"", () -> {
            syntax("cycle 2;tier |1 1 1 1 1;");
            syntax("cycle 2;tier a 1 1 1 1|;");
            syntax("cycle 2;tier a 1 1 1 1 1 |1;");
            syntax("cycle 2;tier a 1 1 1 1 1|");
        });
        says("Braces mean any number of repetitions, brackets that a part may lack, quoted parts stand for themselves.", () -> {
            loads(TIERS, "a: b:");
            loads(TIERS + "tier c 10 1 1 1 1;", "a: b: c:");
            loads(FOUR, "a: b: c: d:");
            loads(TIERS + "file x 1 on a;", "a:x b:");
            loads(filesText(20), "a:a,b,c,d,e,f,g,h,i,j,k,l,m,n,o,p,q,r,s,t b:");
            loads(TIERS.replace("2;", "2rate 3;") + "file x 1 on a pin 5;file y 1 on a;", "a:x,y b:");
            syntax("|Cycle 2;");
            syntax("|cycles 2;");
            syntax("|bycle 2;");
            syntax("cycle 2 |mate 3;");
            syntax("cycle 2;|pier a 1 1 1 1 1;");
            syntax(TIERS + "|mile x 1 on a;");
            syntax(TIERS + "file x 1 |in a;");
            syntax(TIERS + "file x 1 on a |bin 1;");
            syntax("cycle 2 |rates 3;");
            syntax("cycle 2;|tiers a 1 1 1 1 1;");
            syntax(TIERS + "|files x 1 on a;");
            syntax(TIERS + "file x 1 |one a;");
            syntax(TIERS + "file x 1 on a |pins 1;");
        });
    }

    private static void tokens() {
        section("5. TEXTS");
        says("A word is the longest possible sequence of the letters a to z", () -> {
            syntax("cycle 2;|tiera 1 1 1 1 1;");
            syntax("cycle 2;tier |` 1 1 1 1 1;");
            syntax("cycle 2;tier a|` 1 1 1 1 1;");
            syntax("cycle 2;tier |{ 1 1 1 1 1;");
            syntax("cycle 2;tier z|{ 1 1 1 1 1;");
            syntax("cycle 2;tier |Z 1 1 1 1 1;");
            syntax(TIERS + "|filex 1 on a;");
            syntax(TIERS + "file x 1 |ona;");
            loads("cycle2;tier a9 1 1 1 1;tier z9 1 1 1 1;file x1on z;file y1on a pin1;", "a:y z:x");
        });
        says("a NAME is any word of at most 8 letters", () -> {
            loads("cycle 2;tier a 9 1 1 1 1;tier abcdefgh 9 1 1 1 1;file z 1 on abcdefgh;file stuvwxyz 1 on a;", "a:stuvwxyz abcdefgh:z");
            syntax("cycle 2;tier |abcdefghi 9 1 1 1 1;");
            syntax(TIERS + "file |abcdefghi 1 on a;");
            syntax(TIERS + "file x 1 on |abcdefghi;");
            syntax("cycle 2;tier |9 9 1 1 1 1;");
            loads("cycle 2;tier tier 9 1 1 1 1;tier file 9 1 1 1 1;file file 1 on tier;file on 1 on file pin 1;file pin 1 on file;"
                    + "file rate 1 on file;file cycle 1 on tier;", "tier:file,cycle file:on,pin,rate");
        });
        says("N is the longest possible sequence of digits (zeros at its beginning do not matter)", () -> {
            loads("cycle 002 rate 0000008;tier a 0000099999 0 00 000 0000;tier b 9 1 1 1 1;file x 0999 on a pin 00009999;", "a:x b:");
            value("cycle |0000;");
            value("cycle |0013;");
            value("cycle |2147483650;");
            value("cycle |4294967298;");
            value("cycle |18446744073709551618;");
            value("cycle 2;tier a |4294967297 1 1 1 1;");
            value("cycle 2;tier a |999990 1 1 1 1;");
            value("cycle 2;tier a |99999000000000000000001 1 1 1 1;");
            value(TIERS + "file x |4294967297 on a;");
            syntax("cycle 2 |2;");
            syntax("cycle |/;");
            syntax("cycle |:;");
            syntax("cycle 2|/;");
            syntax("cycle 2|:;");
        });
        says("Spaces (byte 32) may stand in front of every token and at the end of the text.", () -> {
            loads("   cycle   2   rate   3   ;   tier   a   9   1   1   1   1   ;   tier b 9 1 1 1 1;   file   x   1   on   a   pin   1   ;   ",
                    "a:x b:");
            loads("cycle2rate3;tier a9 1 1 1 1;tier b9 1 1 1 1;file x1on a pin1;", "a:x b:");
            for (int other : new int[] {1, 9, 10, 13, 31, 33, 160}) {
                syntax("cycle 2|" + (char) other + ";");
                syntax(TIERS + "|" + (char) other);
            }
            syntax("cycle 2;tier a 9 1 1 1 1;tier b|- 9 1 1 1 1;");
        });
    }

    private static void numbersOfTexts() {
        section("5. TEXTS");
        says("The numbers are the cycle; the rate (4 without it); of a tier its room and its costs of keeping, reading, moving in and moving out", () -> {
            SeasonTiers x = Check.of("cycle 3 rate 4;tier a 5 6 7 8 9;tier b 10 11 12 13 14;");
            is(x.count(0), 3);
            is(x.count(1), 4);
            for (int i = 0; i < 5; i++) {
                is(x.tier(0, i), 5 + i);
                is(x.tier(1, i), 10 + i);
            }
            is(Check.of(TIERS).count(1), 4);
            is(Check.of(TIERS.replace("2;", "2 rate 5;")).count(1), 5);
            SeasonTiers y = Check.of(TIERS.replace("2;", "2 rate 5;"));
            Check.load(y, TIERS);
            is(y.count(1), 4);
        });
        says("of a file its size, and the period until which it is pinned (0 to 9999; 0 without it)", () -> {
            SeasonTiers x = Check.of(TIERS + "file v 2 on a pin 9999;file w 3 on a;file x 4 on a pin 0;file y 1 on a pin 1;");
            int[] untils = {9999, 0, 0, 1};
            for (int f = 0; f < 4; f++) {
                is(x.file(f, 3), untils[f]);
                is(x.file(f, 4), untils[f] > 0 ? 1 : 0);
            }
            is(x.file(2, 0), 4);
            value(TIERS + "file x 1 on a pin |10000;");
            syntax(TIERS + "file x 1 on a pin |-1;");
        });
    }

    private static void errors() {
        section("5. TEXTS");
        says("Reading stops at the first error.", () -> {
            value("cycle |1 rate 9;tier");
            value("cycle 2;tier a |0 100 100 100 100;!");
            value("cycle 2;tier a 1 |100 100 1 1;");
            value(TIERS + "file x |0 on c pin 10000;");
            error(SeasonTiers.UNKNOWN, TIERS + "file x 11 on |c pin 10000;");
            error(SeasonTiers.NO_ROOM, TIERS + "file x 11 on |a pin 10000;");
            value(TIERS + "file x 1 on a pin |10000;file x 1 on a;");
        });
        says("If several error codes fit the same position, the first one in this list is reported:", () -> {
            syntax(TIERS + "file x 1 on |abcdefghi;");
            syntax(TIERS + "file x 1 on |1;");
            syntax(FOUR + "file x 1 on a;|tier e 1 1 1 1 1;");
            syntax(filesText(20) + "|tier e 1 1 1 1 1;");
            syntax(filesText(20) + "|filex 1 on a;");
            syntax(FOUR + "|tierx 1 1 1 1 1;");
        });
        says("a byte or token that is not allowed here (at its first byte)", () -> {
            syntax("|x");
            syntax("|cyclo 2;");
            syntax("|cycl");
            syntax("  |2;");
            syntax("cycle 2;tier a 10 1 1 1 1;tier b 10 1 1 1 1 |word;");
            syntax("cycle 2;tier a |word 1 1 1 1;");
            syntax("cycle 2;tier a 10|.5 1 1 1;");
            syntax("cycle |-2;");
            syntax("|" + (char) 255);
            syntax(TIERS + "|" + (char) 128);
        });
        says("or an unexpected end of the text (at the length of the text)", () -> {
            String text = "cycle 2 rate 3;tier a 9 1 1 1 1;tier b 9 1 1 1 1;file x 1 on a pin 1;";
            int good = 0;
            for (int length = 0; length < text.length(); length++) {
                String part = text.substring(0, length);
                SeasonTiers x = new SeasonTiers();
                int answer = Check.load(x, part);
                if (answer >= 0) {
                    good++;
                } else {
                    // A word that is not whole is a word that is not allowed, at its own first byte.
                    String whole = part.replaceFirst("\\b(c|cy|cyc|cycl|r|ra|rat|t|ti|tie|f|fi|fil|o|p|pi)$", "");
                    is(answer, SeasonTiers.SYNTAX_ERROR);
                    is(x.errorPosition(), whole.length());
                }
            }
            is(good, 1);
            syntax(SPACES + "|");
            syntax(SPACES.substring(7) + "cycle 2|");
            syntax("cycle 2   |");
        });
    }

    private static void otherErrors() {
        section("5. TEXTS");
        says("VALUE_ERROR: a number out of its range (at its first digit).", () -> {
            value("cycle   |0013;");
            value("cycle 2 rate |00;");
            value("cycle |13");
            value("cycle |13x");
            value(TIERS + "file x 1 on a pin |0010000");
        });
        says("UNKNOWN: a NAME behind \"on\" that no tier has.", () -> {
            error(SeasonTiers.UNKNOWN, TIERS + "file x 1 on |c;");
            error(SeasonTiers.UNKNOWN, TIERS + "file x 1 on |aa;");
            error(SeasonTiers.UNKNOWN, TIERS + "file x 1 on   |x");
            error(SeasonTiers.UNKNOWN, "cycle 2;tier abcdefgh 9 1 1 1 1;tier b 9 1 1 1 1;file x 1 on |abcdefg;");
            error(SeasonTiers.UNKNOWN, "cycle 2;tier abcdefgh 9 1 1 1 1;tier b 9 1 1 1 1;file x 1 on |bcdefgh;");
            loads(FOUR + "file x 1 on d;", "a: b: c: d:x");
        });
        says("TWICE: the NAME of another tier, of a tier; the NAME of another file, of a file.", () -> {
            error(SeasonTiers.TWICE, "cycle 2;tier a 9 1 1 1 1;tier |a");
            error(SeasonTiers.TWICE, FOUR.replace("tier d", "tier |a"));
            error(SeasonTiers.TWICE, FOUR.replace("tier d", "tier |c"));
            error(SeasonTiers.TWICE, TIERS + "file x 1 on a;file |x 1000 on c;");
            error(SeasonTiers.TWICE, TIERS + "file x 1 on a;file y 1 on b;file   |y");
            error(SeasonTiers.TWICE, filesText(19) + "file |a 1 on a;");
            loads(TIERS + "file a 1 on b;file b 1 on a;", "a:b b:a");
            loads("cycle 2;tier a 9 1 1 1 1;tier aa 9 1 1 1 1;file b 1 on a;file bb 1 on a;file bbb 1 on aa;", "a:b,bb aa:bbb");
        });
        says("NO_ROOM: the NAME of a tier behind \"on\" that has no room left for the file.", () -> {
            error(SeasonTiers.NO_ROOM, TIERS + "file x 11 on |a;");
            error(SeasonTiers.NO_ROOM, TIERS + "file x 10 on a;file y 1 on |a");
            error(SeasonTiers.NO_ROOM, TIERS + "file x 9 on a;file y 2 on   |a;");
            loads(TIERS + "file x 9 on a;file y 1 on a;file z 10 on b;", "a:x,y b:z");
            loads("cycle 2;tier a 999 1 1 1 1;tier b 1 1 1 1 1;file x 999 on a;file y 1 on b;", "a:x b:y");
            error(SeasonTiers.NO_ROOM, "cycle 2;tier a 998 1 1 1 1;tier b 1 1 1 1 1;file x 999 on |a;");
        });
        says("TOO_MANY: a 5th tier, a 21st file (at the word tier or file, before anything behind it is read).", () -> {
            error(SeasonTiers.TOO_MANY, FOUR + "|tier");
            error(SeasonTiers.TOO_MANY, FOUR + "  |tier a 0");
            error(SeasonTiers.TOO_MANY, filesText(20) + "|file");
            error(SeasonTiers.TOO_MANY, filesText(20) + "  |file a 0 on z;");
            loads(FOUR, "a: b: c: d:");
            is(withFiles(20).count(3), 20);
        });
    }

    private static void changes() {
        section("6. CHANGES");
        says("The changes are all calls of load, add, drop, use, close, move, unmove, pin, act, learn, setTier and restore that succeed", () -> {
            OnObject[] made = {(x, n) -> Check.load(x, STORE), (x, n) -> x.add(1, 0), (x, n) -> x.drop(0), (x, n) -> x.use(0, 1),
                (x, n) -> x.close(), (x, n) -> x.move(1, 0), (x, n) -> x.unmove(), (x, n) -> x.pin(0, 1), (x, n) -> x.act(24),
                (x, n) -> x.learn(3, 5), (x, n) -> x.setTier(0, 1, 5), (x, n) -> x.restore(0),
                // nothing is another one then
                (x, n) -> x.pin(0, 0), (x, n) -> x.act(1), (x, n) -> x.learn(2, 4), (x, n) -> x.setTier(1, 0, 1000)};
            for (OnObject change : made) {
                SeasonTiers x = twoChanges();
                change.on(x, 0);
                is(x.undo(), 2);
                is(x.undo(), 1);
                is(x.undo(), 0);
                state(x::undo);
            }
        });
        says("(also if nothing is another one then; a text with an error is no change, nor is a refusal)", () -> {
            OnObject[] none = {(x, n) -> Check.load(x, "cycle 1;"), (x, n) -> x.load(), (x, n) -> x.add(999, 0), (x, n) -> x.move(0, 1),
                (x, n) -> x.setTier(1, 0, 1), (x, n) -> Check.load(x, STORE + "file"), (x, n) -> x.use(1, 9999)};
            for (OnObject refused : none) {
                SeasonTiers x = twoChanges();
                x.use(1, 9);
                refused.on(x, 0);
                is(x.undo(), 2);
                is(x.undo(), 1);
            }
        });
        says("The latest 8 changes can be undone, older ones cannot any more;", () -> {
            for (int changes : new int[] {0, 1, 7, 8, 9, 17}) {
                SeasonTiers x = new SeasonTiers();
                close(x, changes);
                int can = Math.min(changes, 8);
                for (int i = can - 1; i >= 0; i--) {
                    is(x.undo(), i);
                }
                state(x::undo);
                is(x.count(4), changes - can);
            }
        });
        says("undoing a change brings back everything as it was before it, but not the text buffer, the position of the error", () -> {
            SeasonTiers x = Check.of(STORE);
            x.use(0, 4);
            x.append(0x78000000, 0, 0, 0, 0);
            x.load();
            x.append(0x78797a00, 0, 0, 0, 0);
            x.writeTiers();
            x.save(1);
            is(x.undo(), 1);
            is(x.file(0, 2), 0);
            is(x.append(0, 0, 0, 0, 0), 3);
            is(x.errorPosition(), 0);
            is(x.writtenByte(0), 'h');
            is(x.restore(1), 0);
            is(x.file(0, 2), 4);
        });
        says("undoing a change brings back everything as it was before it", EdgeTermsTest::everythingComesBack);
    }

    /** All that was kept and each move, with what it cost, also behind a close, a drop and a load. */
    private static void everythingComesBack() {
        SeasonTiers x = Check.of("cycle 3 rate 3;tier a 9 1 1 1 2;tier b 9 1 1 3 4;tier c 9 1 1 5 6;file x 1 on a;");
        for (int i = 0; i < 26; i++) {
            use(x, 3 + i * i % 11);
        }
        x.pin(0, 99);
        x.pin(0, 0);
        x.move(0, 1);
        x.move(0, 2);
        String before = Check.told(x);
        OnObject[] changes = {(y, n) -> y.close(), (y, n) -> y.drop(0), (y, n) -> Check.load(y, TIERS), (y, n) -> y.unmove(),
            (y, n) -> y.learn(2, 8), (y, n) -> y.add(1, 1)};
        for (OnObject change : changes) {
            change.on(x, 0);
            is(x.undo(), 7);
        }
        is(Check.told(x), before);
        is(x.unmove(), 0);
        is(x.account(1, 2), 3);
        is(x.account(2, 2), 0);
        is(x.unmove(), 0);
        is(x.account(0, 2), 0);
        is(x.account(1, 2), 0);
        is(x.file(0, 1), 0);
        x.undo();
        x.undo();
        is(Check.told(x), before);
    }

    /** A store behind two changes, with a move that can be undone and slot 0 filled. */
    private static SeasonTiers twoChanges() {
        SeasonTiers x = Check.of(STORE);
        x.move(0, 1);
        x.save(0);
        return x;
    }

    private static void refusals() {
        section("6. CHANGES");
        says("Refused calls return -10 minus the reason; the lowest one is told:", () -> {
            SeasonTiers x = withFiles(20);
            is(x.add(999, 0), -11);
            SeasonTiers y = Check.of(TIERS + "file x 5 on a pin 1;file y 6 on b;");
            is(y.move(0, 0), -13);
            is(y.move(0, 1), -13);
            y.pin(0, 0);
            is(y.move(0, 0), -14);
            is(y.move(0, 1), -15);
        });
        says("1 there are 20 files; 3 the file is pinned; 4 it is on this tier; 5 there is no room; 6 there is no move that can be undone; "
                + "7 it is the period 9999; 8 the file would have been used more than 9999 times", () -> {
            is(withFiles(20).add(1, 1), -11);
            is(Check.of(STORE.replace("on hot", "on hot pin 1")).move(0, 1), -13);
            is(Check.of(STORE).move(0, 0), -14);
            is(Check.of(STORE).add(91, 0), -15);
            is(Check.of(STORE).unmove(), -16);
            SeasonTiers x = Check.of(STORE);
            x.use(0, 9999);
            is(x.use(0, 1), -18);
            // The period 9999 lies beyond the 512 calls; the last period within them still closes.
            SeasonTiers y = new SeasonTiers();
            close(y, 510);
            is(y.close(), 0);
            is(y.count(4), 511);
        });
        says("(There is no reason 2.)", () -> {
            SeasonTiers x = withFiles(20);
            x.drop(19);
            is(x.add(99, 0), -15);
            is(x.add(80, 0), 19);
        });
    }

    /** The call must be refused so, and leave all that can be asked as on an object without that call. */
    private static void refused(OnObject making, OnObject call, int due) {
        SeasonTiers x = Check.of(STORE);
        SeasonTiers y = Check.of(STORE);
        making.on(x, 0);
        making.on(y, 0);
        is(String.valueOf(call.on(x, 0)), String.valueOf(due));
        is(Check.told(x), Check.told(y));
        is(x.append(0, 0, 0, 0, 0), y.append(0, 0, 0, 0, 0));
        is(Check.written(x), Check.written(y));
        is(x.undo(), y.undo());
        is(x.count(3), y.count(3));
        is(x.count(4), y.count(4));
        is(x.count(6), y.count(6));
    }

    private static void refusalsChangeNothing() {
        section("6. CHANGES");
        says("a text with an error is no change, nor is a refusal", () -> {
            OnObject uses = (x, n) -> x.use(0, 9);
            refused((x, n) -> Check.load(x, filesText(20)), (x, n) -> x.add(1, 1), -11);
            refused((x, n) -> x.pin(0, 1), (x, n) -> x.move(0, 1), -13);
            refused(uses, (x, n) -> x.move(1, 1), -14);
            refused(uses, (x, n) -> x.add(91, 0), -15);
            refused((x, n) -> x.add(90, 0), (x, n) -> x.move(1, 0), -15);
            refused((x, n) -> x.move(0, 1) + x.add(91, 0), (x, n) -> x.unmove(), -15);
            refused(uses, (x, n) -> x.setTier(1, 0, 19), -15);
            refused(uses, (x, n) -> x.unmove(), -16);
            refused(uses, (x, n) -> x.use(0, 9991), -18);
            refused(uses, (x, n) -> x.load(), -2);
            refused(uses, (x, n) -> Check.load(x, "cycle 13"), -3);
            refused(uses, (x, n) -> Check.load(x, STORE + "file c 1 on warm"), -4);
            refused(uses, (x, n) -> Check.load(x, STORE + "file b"), -5);
            refused(uses, (x, n) -> Check.load(x, STORE + "file c 91 on hot"), -6);
            refused(uses, (x, n) -> Check.load(x, filesText(20) + "file"), -7);
        });
    }

    private static void exceptions() {
        section("7. EXCEPTIONS");
        says("A method that throws an exception changes nothing.", () -> {
            for (OnObject call : throwing()) {
                unchanged(call);
            }
        });
        says("If several exceptions apply, the one named first is thrown.", () -> {
            SeasonTiers x = Check.of(STORE);
            index(() -> x.tier(2, 8));
            index(() -> x.file(2, 10));
            index(() -> x.forecast(2, 25));
            index(() -> x.account(2, 4));
            index(() -> x.cost(2, 0, 0));
            index(() -> x.cost(0, 2, 25));
            index(() -> x.wish(2, 0));
            argument(() -> x.step(0, 9, 0));
            argument(() -> x.step(1, 9, 3));
            index(() -> x.withRoom(2, -1, 1));
            index(() -> x.withRoom(2, 0, 25));
            argument(() -> x.add(0, 2));
            argument(() -> x.add(1000, -1));
            index(() -> x.use(2, 0));
            index(() -> x.pin(2, 10000));
            index(() -> x.setTier(2, 5, 0));
            index(() -> x.setTier(2, 0, 0));
            index(() -> x.restore(2));
        });
        says("An IndexOutOfBoundsException is thrown if a tier, file or other thing with a number does not exist.", () -> {
            SeasonTiers x = Check.of(STORE);
            indexBeside(2, n -> x.tier(n, 0));
            indexBeside(2, n -> x.file(n, 0));
            indexBeside(2, n -> x.season(0, n));
            indexBeside(0, n -> x.kept(0, n));
            indexBeside(1, n -> x.step(2, n, 0));
            indexBeside(2, n -> x.restore(n));
            indexBeside(0, n -> x.writtenByte(n));
        });
    }

    /** Each call that throws, with each of its exceptions. */
    private static OnObject[] throwing() {
        return new OnObject[] {(x, n) -> x.append(-1, -1, -1, -1, -1), (x, n) -> x.count(8), (x, n) -> x.tier(2, 0), (x, n) -> x.tier(0, 8),
            (x, n) -> x.file(2, 0), (x, n) -> x.file(0, 10), (x, n) -> x.season(2, 0), (x, n) -> x.season(0, 2), (x, n) -> x.kept(2, 0),
            (x, n) -> x.kept(0, 2), (x, n) -> x.forecast(2, 0), (x, n) -> x.forecast(0, 25), (x, n) -> x.off(2), (x, n) -> x.cycleOf(2),
            (x, n) -> x.account(2, 0), (x, n) -> x.account(0, 4), (x, n) -> x.cost(2, 0, 1), (x, n) -> x.cost(0, 2, 1),
            (x, n) -> x.cost(0, 0, 25), (x, n) -> x.wish(2, 1), (x, n) -> x.wish(0, 25), (x, n) -> x.steps(25), (x, n) -> x.step(25, 0, 0),
            (x, n) -> x.step(1, 0, 3), (x, n) -> x.step(1, 9, 0), (x, n) -> x.saving(25), (x, n) -> x.withRoom(2, 0, 1),
            (x, n) -> x.withRoom(0, 100000, 1), (x, n) -> x.withRoom(0, 0, 25), (x, n) -> x.add(1000, 0), (x, n) -> x.add(1, 2),
            (x, n) -> x.drop(2), (x, n) -> x.use(2, 1), (x, n) -> x.use(0, 10000), (x, n) -> x.move(2, 0), (x, n) -> x.move(0, 2),
            (x, n) -> x.pin(2, 1), (x, n) -> x.pin(0, 10000), (x, n) -> x.act(25), (x, n) -> x.learn(13, 1), (x, n) -> x.learn(3, 9),
            (x, n) -> x.setTier(2, 0, 1), (x, n) -> x.setTier(0, 5, 1), (x, n) -> x.setTier(0, 0, 100000), (x, n) -> x.setTier(0, 1, 100),
            (x, n) -> save(x, 2), (x, n) -> x.restore(2), (x, n) -> x.restore(1), (x, n) -> x.writtenByte(99)};
    }

    private static int save(SeasonTiers x, int slot) {
        x.save(slot);
        return 0;
    }

    /** A store of which everything is something: uses, seasons, moves, texts, slot 0, and six changes. */
    private static SeasonTiers rich() {
        SeasonTiers x = Check.of("cycle 2 rate 5;tier a 15 3 1 2 1;tier b 8 1 5 1 2;file x 7 on a;file y 8 on b pin 99;");
        x.use(0, 3);
        x.close();
        x.pin(1, 0);
        x.save(0);
        x.move(1, 0);
        x.use(1, 5);
        x.append(0x78000000, 0, 0, 0, 0);
        x.load();
        x.writeTiers();
        Check.feed(x, SPACES.substring(7));
        return x;
    }

    /** The call must throw, and all that can be asked must answer as on an object without that call. */
    private static void unchanged(OnObject call) {
        SeasonTiers x = rich();
        SeasonTiers y = rich();
        String threw = "nothing";
        try {
            call.on(x, 0);
        } catch (RuntimeException e) {
            threw = "an exception";
        }
        is(threw, "an exception");
        is(texts(x), texts(y));
        is(Check.told(x), Check.told(y));
        is(x.undo(), y.undo());
        is(Check.told(x), Check.told(y));
        is(x.restore(0), y.restore(0));
        is(Check.told(x), Check.told(y));
        state(() -> x.restore(1));
        is(Check.written(x), Check.written(y));
    }

    /** The length of the buffer, the position of the error and the written text. */
    private static String texts(SeasonTiers x) {
        StringBuilder text = new StringBuilder();
        text.append(x.append(0, 0, 0, 0, 0)).append(' ').append(x.errorPosition()).append(' ');
        for (int i = 0; i < 8; i++) {
            text.append((char) x.writtenByte(i));
        }
        index(() -> x.writtenByte(8));
        return text.toString();
    }

    private static void constants() {
        section("The constants");
        says("`NONE = -1`", () -> is(SeasonTiers.NONE, -1));
        says("The value -1: there is none.", () -> is(new SeasonTiers().errorPosition(), SeasonTiers.NONE));
        says("Error code of load: the text does not follow the grammar.", () -> {
            is(SeasonTiers.SYNTAX_ERROR, -2);
            is(new SeasonTiers().load(), -2);
        });
        says("Error code of load: a number out of its range.", () -> {
            is(SeasonTiers.VALUE_ERROR, -3);
            is(Check.load(new SeasonTiers(), "cycle 13"), -3);
        });
        says("Error code of load: a name that no tier has.", () -> {
            is(SeasonTiers.UNKNOWN, -4);
            is(Check.load(new SeasonTiers(), TIERS + "file x 1 on c"), -4);
        });
        says("Error code of load: a name that was told already.", () -> {
            is(SeasonTiers.TWICE, -5);
            is(Check.load(new SeasonTiers(), "cycle 2;tier a 1 1 1 1 1;tier a"), -5);
        });
        says("Error code of load: a tier without room.", () -> {
            is(SeasonTiers.NO_ROOM, -6);
            is(Check.load(new SeasonTiers(), TIERS + "file x 11 on a"), -6);
        });
        says("Error code of load: there is too much of something.", () -> {
            is(SeasonTiers.TOO_MANY, -7);
            is(Check.load(new SeasonTiers(), FOUR + "tier"), -7);
        });
    }
}
