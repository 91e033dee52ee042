/** The boundary cases that the promises name, sentence by sentence: each argument, answer and exception. */
public final class EdgeCallsTest extends Edges {
    public static void main(String[] args) {
        promise1();
        promise2();
        promise3();
        promise4();
        promise5();
        promise6();
        promise7();
        promise8();
        promise9();
        promise10();
        promise11();
        promise12();
        promise13();
        promise14();
        promise15();
        promise16();
        promise17();
        promise18();
        promise19();
        promise20();
        promise21();
        promise22();
        promise23();
        promise24();
        promise25();
        promise26();
        promise27();
        promise28();
        promise29();
        promise30();
        promise31();
        promise32();
        promise33();
        promise34();
        promise35();
        promise36();
        promise37();
        allSaid();
        Check.end();
    }

    private static void promise1() {
        section("Promise 1: A new object");
        says("Creates a store as by the text \"cycle 2;tier a 10 1 1 1 1;tier b 10 1 1 1 1;\"", () -> {
            is(Check.told(new SeasonTiers()), Check.told(Check.of(TIERS)));
            is(Check.written(new SeasonTiers()), "a: b:");
            is(new SeasonTiers().add(11, 1), -15);
            is(new SeasonTiers().add(10, 1), 0);
        });
        says("with an empty text buffer and nothing saved", () -> {
            SeasonTiers x = new SeasonTiers();
            is(x.append(0, 0, 0, 0, 0), 0);
            state(() -> x.restore(0));
            state(() -> x.restore(1));
            state(x::undo);
            is(x.load(), SeasonTiers.SYNTAX_ERROR);
            is(x.errorPosition(), 0);
        });
    }

    private static void promise2() {
        section("Promise 2: append");
        says("Appends up to 20 bytes to the text buffer: the four bytes of each argument in order, the most significant byte first", () -> {
            SeasonTiers x = new SeasonTiers();
            is(x.append(0x6379636c, 0x6520323b, 0x74696572, 0x20612039, 0x20312031), 20);
            is(x.append(0x20312031, 0x3b746965, 0x72206220, 0x39203120, 0x31203120), 40);
            is(x.append(0x313b6669, 0x6c652078, 0x20312020, 0x206f6e20, 0x2020623b), 60);
            is(x.load(), 1);
            is(Check.written(x), "a: b:x");
        });
        says("bytes that are 0 are left out", () -> {
            SeasonTiers x = new SeasonTiers();
            is(x.append(0, 0, 0, 0, 0), 0);
            is(x.append(0x63, 0x7900, 0x630000, 0x6c000000, 0x65), 5);
            is(x.append(0x20003200, 0x003b0074, 0x69000065, 0x00722000, 0x61203920), 17);
            Check.feed(x, "1 1 1 1;tier b 9 1 1 1 1;");
            is(x.load(), 0);
            is(x.count(2), 2);
        });
        says("first four bytes | next four bytes | last four bytes", () -> {
            int[] values = {0x7a000000, 0x7a0000, 0x7a00, 0x7a, 0x7a7a7a7a, -1, Integer.MIN_VALUE, 0x80, 0xff00};
            int[] lengths = {1, 1, 1, 1, 4, 4, 1, 1, 1};
            for (int i = 0; i < values.length; i++) {
                is(new SeasonTiers().append(values[i], 0, 0, 0, 0), lengths[i]);
                is(new SeasonTiers().append(0, values[i], 0, 0, 0), lengths[i]);
                is(new SeasonTiers().append(0, 0, values[i], 0, 0), lengths[i]);
                is(new SeasonTiers().append(0, 0, 0, values[i], 0), lengths[i]);
                is(new SeasonTiers().append(0, 0, 0, 0, values[i]), lengths[i]);
            }
        });
        says("Returns the new length of the buffer. | if the length would exceed 600", () -> {
            SeasonTiers x = new SeasonTiers();
            for (int i = 1; i <= 29; i++) {
                is(x.append(-1, -1, -1, -1, -1), 20 * i);
            }
            is(x.append(-1, -1, -1, -1, 0x01010100), 599);
            state(() -> x.append(0x01010000, 0, 0, 0, 0));
            state(() -> x.append(1, 0, 0, 0, 1));
            state(() -> x.append(-1, -1, -1, -1, -1));
            is(x.append(0, 0, 0, 0, 0), 599);
            is(x.append(0, 0, 0x0100, 0, 0), 600);
            state(() -> x.append(0, 0, 0, 0, 1));
            state(() -> x.append(0, 0, 0x010000, 0, 0));
            state(() -> x.append(0, 1, 0, 0, 0));
            state(() -> x.append(0, 0, 0, 0x01000000, 0));
            state(() -> x.append(Integer.MIN_VALUE, 0, 0, 0, 0));
            is(x.append(0, 0, 0, 0, 0), 600);
            is(x.load(), SeasonTiers.SYNTAX_ERROR);
            is(x.append(-1, -1, -1, -1, -1), 20);
            SeasonTiers y = new SeasonTiers();
            for (int i = 1; i <= 29; i++) {
                y.append(-1, -1, -1, -1, -1);
            }
            is(y.append(-1, -1, -1, -1, -1), 600);
        });
    }

    private static void promise3() {
        section("Promise 3: load");
        says("Reads the whole text buffer as a store.", () -> {
            SeasonTiers x = new SeasonTiers();
            Check.feed(x, TIERS + " ".repeat(599 - TIERS.length()));
            is(x.append(0x78, 0, 0, 0, 0), 600);
            is(x.load(), SeasonTiers.SYNTAX_ERROR);
            is(x.errorPosition(), 599);
        });
        says("If the text has no error, it replaces the present one (the period is 0, all accounts are 0)", () -> {
            SeasonTiers x = Check.of(STORE);
            x.use(0, 3);
            x.close();
            x.move(0, 1);
            x.use(0, 3);
            is(Check.load(x, FOUR + "file z 9 on c;"), 1);
            is(Check.told(x), Check.told(Check.of(FOUR + "file z 9 on c;")));
            is(Check.written(x), "a: b: c:z d:");
            is(x.count(4), 0);
            is(x.count(6), 0);
            is(x.account(NONE, 3), 0);
            is(x.account(1, 2), 0);
        });
        says("in case of an error the present one stays", () -> {
            for (String bad : new String[] {"", "cycle 1;", "cycle 3 rate 9", FOUR + "tier", filesText(20) + "file", TIERS + "file z 11 on a;"}) {
                SeasonTiers x = Check.of(STORE);
                x.use(0, 3);
                x.close();
                x.move(0, 1);
                String before = Check.told(x);
                is(Check.load(x, bad) < 0 ? 1 : 0, 1);
                is(Check.told(x), before);
                is(Check.written(x), "hot: cold:a,b");
                is(x.undo(), 3);
            }
        });
        says("The buffer is empty afterwards in both cases.", () -> {
            SeasonTiers x = Check.of(STORE);
            is(x.append(0, 0, 0, 0, 0), 0);
            is(Check.load(x, "cycle 2;tier"), SeasonTiers.SYNTAX_ERROR);
            is(x.append(0, 0, 0, 0, 0), 0);
            is(Check.load(x, STORE), 2);
            // Nothing of a text with an error stays for the next one: no names, no sizes, no numbers.
            is(Check.load(x, "cycle 12 rate 8;" + TIERS.substring(8) + "file x 9 on a pin 9;file y 9 on b pin 9;!"), SeasonTiers.SYNTAX_ERROR);
            is(Check.load(x, TIERS + "file x 10 on a;file y 10 on b;"), 2);
            is(x.count(1), 4);
            is(x.count(5), 0);
        });
        says("Returns the number of files, or the error code.", () -> {
            SeasonTiers x = new SeasonTiers();
            for (int files : new int[] {0, 1, 20}) {
                is(Check.load(x, filesText(files)), files);
            }
            is(Check.load(x, "cycle"), -2);
            is(Check.load(x, "cycle 0"), -3);
            is(Check.load(x, TIERS + "file x 1 on c"), -4);
            is(Check.load(x, TIERS + "file x 1 on a;file x"), -5);
            is(Check.load(x, TIERS + "file x 11 on a"), -6);
            is(Check.load(x, filesText(20) + "file"), -7);
        });
    }

    private static void promise4() {
        section("Promise 4: errorPosition");
        says("Returns the position of the error that the latest call of load found.", () -> {
            SeasonTiers x = new SeasonTiers();
            Check.load(x, " ".repeat(600));
            is(x.errorPosition(), 600);
            Check.load(x, "x");
            is(x.errorPosition(), 0);
            Check.load(x, "cycle 2 x");
            is(x.errorPosition(), 8);
            x.append(0x63000000, 0, 0, 0, 0);
            is(x.errorPosition(), 8);
            x.close();
            is(x.errorPosition(), 8);
            x.undo();
            is(x.errorPosition(), 8);
        });
        says("Returns the position; NONE if it found no error or if there was no call.", () -> {
            SeasonTiers x = new SeasonTiers();
            is(x.errorPosition(), NONE);
            Check.feed(x, "x");
            is(x.errorPosition(), NONE);
            x.load();
            is(x.errorPosition(), 0);
            Check.load(x, TIERS);
            is(x.errorPosition(), NONE);
        });
    }

    private static void promise5() {
        section("Promise 5: count");
        says("Returns a number of the store. | Returns the requested number. | 0: the cycle; 1: the rate; 2: tiers; 3: files; "
                + "4: the number of the period at hand; 5: files that are pinned; 6: moves that can be undone; 7: the sum of all sizes", () -> {
            SeasonTiers x = new SeasonTiers();
            int[] none = {2, 4, 2, 0, 0, 0, 0, 0};
            for (int what = 0; what < 8; what++) {
                is(x.count(what), none[what]);
            }
            StringBuilder full = new StringBuilder("cycle 12 rate 8;tier a 99999 0 0 0 0;tier b 99999 0 0 0 0;tier c 1 0 0 0 0;tier d 1 0 0 0 0;");
            for (int i = 0; i < 20; i++) {
                full.append("file ").append((char) ('a' + i)).append(" 999 on a pin 3;");
            }
            SeasonTiers y = Check.of(full.toString());
            close(y, 2);
            is(y.count(5), 20);
            y.close();
            is(y.count(5), 0);
            for (int i = 0; i < 61; i++) {
                y.move(0, 1 - i % 2);
            }
            int[] most = {12, 8, 4, 20, 3, 0, 60, 20 * 999};
            for (int what = 0; what < 8; what++) {
                is(y.count(what), most[what]);
            }
        });
        says("Throws `IllegalArgumentException` for any other what", () -> argumentBeside(0, 7, n -> new SeasonTiers().count(n)));
    }

    private static void promise6() {
        section("Promise 6: tier");
        says("Returns a number of a tier. | number of a tier | if the tier does not exist", () -> tierNumbers((x, n) -> x.tier(n, 7)));
        says("0: its room; 1: the cost of keeping; 2: of reading; 3: of moving in; 4: of moving out; 5: the sum of the sizes of its files; "
                + "6: how many files it has | Returns the requested number.", () -> {
            SeasonTiers x = Check.of("cycle 2;tier a 99999 0 99 0 99;tier b 5 99 0 99 0;file x 999 on a;file y 999 on a;");
            int[][] due = {{99999, 0, 99, 0, 99, 1998, 2}, {5, 99, 0, 99, 0, 0, 0}};
            for (int t = 0; t < 2; t++) {
                for (int what = 0; what < 7; what++) {
                    is(x.tier(t, what), due[t][what]);
                }
            }
            SeasonTiers y = withFiles(20);
            is(y.tier(0, 5), 20);
            is(y.tier(0, 6), 20);
            y.move(19, 1);
            is(y.tier(0, 6), 19);
            is(y.tier(1, 5), 1);
        });
        says("7: its file that is used most by its forecast for the period at hand (also if that is 0), of several the lowest one (NONE without files)", () -> {
            SeasonTiers x = Check.of(TIERS + "file v 1 on b;file w 1 on a;file x 1 on a;file y 1 on a;");
            is(x.tier(0, 7), 1);
            x.use(3, 5);
            is(x.tier(0, 7), 1);
            x.close();
            is(x.tier(0, 7), 3);
            x.use(0, 9);
            x.use(2, 1);
            x.close();
            is(x.tier(0, 7), 3);
            is(x.tier(1, 7), 0);
            x.close();
            is(x.tier(0, 7), 2);
            x.drop(0);
            is(x.tier(1, 7), NONE);
            is(withFiles(0).tier(0, 7), NONE);
            SeasonTiers y = withFiles(20);
            y.use(18, 3);
            y.use(19, 3);
            y.close();
            is(y.tier(0, 7), 18);
        });
        says("for any other what", () -> argumentBeside(0, 7, n -> new SeasonTiers().tier(1, n)));
    }

    private static void promise7() {
        section("Promise 7: file");
        says("Returns a number of a file. | number of a file | if the file does not exist", () -> fileNumbers((x, n) -> x.file(n, 9)));
        says("0: its size; 1: its tier; 2: its uses in the period at hand; 3: the period until which it is pinned (0 if it never was); "
                + "4: 1 if it is pinned now, otherwise 0; 5: periods that are kept; 6: how many forecasts were scored; "
                + "7: phases whose seasons are known | Returns the requested number.", () -> {
            SeasonTiers x = Check.of("cycle 12;tier a 999 1 1 1 1;tier b 9 1 1 1 1;tier c 9 1 1 1 1;tier d 9 1 1 1 1;file x 1 on d pin 9999;file y 999 on a;");
            int[][] first = {{1, 3, 0, 9999, 1, 0, 0, 0}, {999, 0, 0, 0, 0, 0, 0, 0}};
            numbers(x, first);
            x.use(0, 9999);
            is(x.file(0, 2), 9999);
            x.close();
            int[][] second = {{1, 3, 0, 9999, 1, 1, 0, 1}, {999, 0, 0, 0, 0, 1, 0, 1}};
            numbers(x, second);
            close(x, 10);
            is(x.file(0, 7), 11);
            close(x, 15);
            x.pin(1, 27);
            int[][] third = {{1, 3, 0, 9999, 1, 24, 25, 12}, {999, 0, 0, 27, 1, 24, 25, 12}};
            numbers(x, third);
            x.close();
            is(x.file(1, 3), 27);
            is(x.file(1, 4), 0);
        });
        says("8: the phase with the greatest season that is known, of several the lowest one (NONE)", () -> {
            SeasonTiers x = used("cycle 12");
            is(x.file(0, 8), NONE);
            use(x, 0);
            is(x.file(0, 8), 0);
            use(x, 0, 5, 5, 4);
            is(x.file(0, 8), 2);
            use(x, 0, 0, 0, 0, 0, 0, 6);
            is(x.file(0, 8), 11);
            x.learn(2, 8);
            is(x.file(0, 8), 1);
        });
        says("9: its greatest season minus its least one of those that are known (0 without any)", () -> {
            SeasonTiers x = used("cycle 3");
            is(x.file(0, 9), 0);
            use(x, 9999);
            is(x.file(0, 9), 0);
            use(x, 9999);
            is(x.file(0, 9), 0);
            use(x, 0);
            is(x.file(0, 9), 159984);
            is(used("cycle 3", 2, 5, 3).file(0, 9), 48);
            is(used("cycle 3", 5, 3, 2).file(0, 9), 48);
            is(used("cycle 3", 5, 2).file(0, 9), 48);
            is(used("cycle 12", 5, 5, 5, 5, 5, 5, 5, 5, 5, 5, 5, 2).file(0, 9), 48);
            is(used("cycle 12", 2, 2, 2, 2, 2, 2, 2, 2, 2, 2, 2, 5).file(0, 9), 48);
        });
        says("for any other what", () -> argumentBeside(0, 9, n -> Check.of(STORE).file(1, n)));
    }

    private static void numbers(SeasonTiers x, int[][] due) {
        for (int f = 0; f < due.length; f++) {
            for (int what = 0; what < due[f].length; what++) {
                is(x.file(f, what), due[f][what]);
            }
        }
    }

    private static void promise8() {
        section("Promise 8: season");
        says("Returns a season. | number of a file", () -> fileNumbers((x, n) -> x.season(n, 0)));
        says("0 to the cycle minus 1 | if the file or the phase does not exist", () -> {
            SeasonTiers x = used("cycle 12", 1, 2, 3, 4, 5, 6, 7, 8, 9, 10, 11, 12);
            is(x.season(0, 0), 16);
            is(x.season(0, 11), 192);
            indexBeside(12, n -> x.season(0, n));
            SeasonTiers y = used("cycle 2", 1, 2, 3);
            is(y.season(0, 1), 32);
            indexBeside(2, n -> y.season(0, n));
            y.learn(3, 4);
            is(y.season(0, 2), 48);
            indexBeside(3, n -> y.season(0, n));
            y.learn(2, 4);
            indexBeside(2, n -> y.season(0, n));
        });
        says("Returns the season; NONE if it is unknown.", () -> {
            SeasonTiers x = used("cycle 2", 0);
            is(x.season(0, 0), 0);
            is(x.season(0, 1), NONE);
        });
    }

    private static void promise9() {
        section("Promise 9: kept");
        says("Returns the uses of a file in a period that is kept. | number of a file | Returns the uses.", () -> fileNumbers((x, n) -> {
            x.close();
            return x.kept(n, 0);
        }));
        says("0 for the oldest period that is kept | if the file does not exist, or there is no period in this place", () -> {
            SeasonTiers x = used("cycle 2");
            indexBeside(0, n -> x.kept(0, n));
            use(x, 0);
            is(x.kept(0, 0), 0);
            indexBeside(1, n -> x.kept(0, n));
            for (int i = 1; i < 25; i++) {
                use(x, i);
            }
            is(x.kept(0, 0), 1);
            is(x.kept(0, 23), 24);
            indexBeside(24, n -> x.kept(0, n));
            x.add(1, 0);
            indexBeside(0, n -> x.kept(1, n));
        });
    }

    private static void promise10() {
        section("Promise 10: forecast");
        says("Returns a forecast. | number of a file | if the file does not exist", () -> fileNumbers((x, n) -> x.forecast(n, 0)));
        says("0 for the period at hand, up to 24 | Throws `IllegalArgumentException` if ahead is out of range", () -> {
            SeasonTiers x = used("cycle 5", 1, 2, 3, 4, 5, 1);
            is(x.forecast(0, 0), 32);
            is(x.forecast(0, 4), 16);
            is(x.forecast(0, 23), 80);
            is(x.forecast(0, 24), 16);
            argumentBeside(0, 24, n -> x.forecast(0, n));
        });
        says("Returns the forecast, in sixteenths of a use.", () -> {
            is(used("cycle 2", 1).forecast(0, 1), 16);
            is(used("cycle 2", 9999).forecast(0, 0), 159984);
            is(used("cycle 2").forecast(0, 24), 0);
        });
    }

    private static void promise11() {
        section("Promise 11: off");
        says("Returns by how much the forecasts of a file were off in all, as they were scored. | Returns the sum.", () -> {
            SeasonTiers x = used("cycle 2 rate 8");
            is(x.off(0), 0);
            use(x, 9999);
            is(x.off(0), 0);
            use(x, 0);
            is(x.off(0), 159984);
            use(x, 0);
            is(x.off(0), 2 * 159984);
            for (int i = 0; i < 30; i++) {
                use(x, i % 4 < 2 ? 9999 : 0);
            }
            is(x.off(0), 32 * 159984);
        });
        says("number of a file | if the file does not exist", () -> fileNumbers((x, n) -> x.off(n)));
    }

    private static void promise12() {
        section("Promise 12: meanOff");
        says("Returns the mean of how far off a forecast was, over all files that are there.", () -> {
            SeasonTiers x = Check.of(STORE);
            x.use(0, 1);
            x.close();
            x.use(1, 2);
            x.close();
            is(x.meanOff(), (16 + 32) / 2.0);
            x.drop(1);
            is(x.meanOff(), 16.0);
            x.drop(0);
            is(x.meanOff(), 0.0);
        });
        says("divided by the sum of how many of their forecasts were scored; 0 without any", () -> {
            is(new SeasonTiers().meanOff(), 0.0);
            is(used("cycle 2", 5).meanOff(), 0.0);
            is(used("cycle 2", 5, 5).meanOff(), 0.0);
            is(used("cycle 2", 1, 0, 0, 0).meanOff(), (16 + 16 + 0) / 3.0);
            is(used("cycle 12", 1, 0).meanOff(), 16.0);
        });
    }

    private static void promise13() {
        section("Promise 13: cycleOf");
        says("Returns the own cycle of a file. | number of a file | if the file does not exist", () -> fileNumbers((x, n) -> x.cycleOf(n)));
        says("Returns the own cycle; NONE if fewer than 3 periods are kept.", () -> {
            is(used("cycle 2").cycleOf(0), NONE);
            is(used("cycle 2", 1, 1).cycleOf(0), NONE);
            is(used("cycle 2", 1, 1, 1).cycleOf(0), 2);
            SeasonTiers x = used("cycle 2", 1, 1, 1);
            x.add(1, 0);
            is(x.cycleOf(1), NONE);
        });
    }

    private static void promise14() {
        section("Promise 14: commonCycle");
        says("Finds the cycle that most files have as their own one, of several the least one.", () -> {
            // own cycles 2, 3 and 3, then 2 and 3
            SeasonTiers x = Check.of(TIERS + "file x 1 on a;file y 1 on a;file z 1 on b;");
            for (int period = 0; period < 7; period++) {
                for (int f = 0; f < 3; f++) {
                    if (period % (f == 0 ? 2 : 3) == 0) {
                        x.use(f, 5);
                    }
                }
                x.close();
            }
            is(x.commonCycle(), 3);
            x.drop(2);
            is(x.commonCycle(), 2);
            x.drop(0);
            is(x.commonCycle(), 3);
            is(used("cycle 2", 9, 0, 0, 0, 0, 0, 0, 0, 0, 0, 0, 0, 9).commonCycle(), 12);
            SeasonTiers y = withFiles(20);
            close(y, 3);
            is(y.commonCycle(), 2);
        });
        says("Returns the cycle; NONE if no file has an own cycle.", () -> {
            is(new SeasonTiers().commonCycle(), NONE);
            is(used("cycle 2", 1, 1).commonCycle(), NONE);
            SeasonTiers x = used("cycle 2", 1, 1, 1);
            x.add(1, 0);
            is(x.commonCycle(), 2);
            x.drop(0);
            is(x.commonCycle(), NONE);
        });
    }

    private static void promise15() {
        section("Promise 15: account");
        says("Returns a sum of the account. | number of a tier; NONE for all tiers | if the tier does not exist", () -> {
            for (int tiers : new int[] {2, 4}) {
                SeasonTiers x = Check.of(tiers == 2 ? TIERS : FOUR);
                for (int tier : new int[] {-2, tiers, Integer.MIN_VALUE, Integer.MAX_VALUE}) {
                    index(() -> x.account(tier, 0));
                }
                is(x.account(NONE, 0), 0);
                is(x.account(0, 0), 0);
                is(x.account(tiers - 1, 0), 0);
            }
        });
        says("0: keeping; 1: reading; 2: moving; 3: all of them | Returns the sum.", () -> {
            SeasonTiers x = Check.of(FOUR.replace(" 10 1 1 1 1", " 10 2 3 4 5") + "file x 1 on a;file y 2 on d;");
            x.use(0, 1);
            x.use(1, 10);
            x.close();
            x.move(1, 2);
            long[][] due = {{2, 3, 0, 5}, {0, 0, 0, 0}, {0, 0, 8, 8}, {4, 60, 10, 74}};
            for (int what = 0; what < 4; what++) {
                for (int t = 0; t < 4; t++) {
                    is(x.account(t, what), due[t][what]);
                }
                is(x.account(NONE, what), due[0][what] + due[1][what] + due[2][what] + due[3][what]);
            }
            SeasonTiers y = greatest();
            for (int i = 0; i < 5; i++) {
                for (int f = 0; f < 20; f++) {
                    y.use(f, 9999);
                }
                y.close();
            }
            is(y.account(0, 0), 5 * 19980L * 99);
            is(y.account(0, 1), 5 * 19980L * 99 * 9999);
            is(y.account(0, 3), 5 * 19980L * 99 * 10000);
            is(y.account(NONE, 3), 5 * 19980L * 99 * 10000);
        });
        says("for any other what", () -> {
            argumentBeside(0, 3, n -> new SeasonTiers().account(0, n));
            argumentBeside(0, 3, n -> new SeasonTiers().account(NONE, n));
        });
    }

    /** 20 files of the greatest size on a tier of the greatest costs; the other tiers are alike, and free. */
    private static SeasonTiers greatest() {
        StringBuilder text = new StringBuilder("cycle 2;tier a 99999 99 99 99 99;tier b 99999 0 0 0 0;");
        for (int i = 0; i < 20; i++) {
            text.append("file ").append((char) ('a' + i)).append(" 999 on a;");
        }
        return Check.of(text.toString());
    }

    private static void promise16() {
        section("Promise 16: movingShare");
        says("Returns which part of all costs is that of moving.", () -> {
            SeasonTiers x = Check.of(STORE);
            x.move(0, 1);
            is(x.movingShare(), 1.0f);
            x.close();
            is(x.movingShare(), 20f / 50f);
            x.move(0, 0);
            is(x.movingShare(), 60f / 90f);
            x.unmove();
            is(x.movingShare(), 20f / 50f);
            SeasonTiers y = Check.of(STORE);
            y.close();
            is(y.movingShare(), 0.0f);
        });
        says("both converted to float; 0 if there were no costs", () -> {
            is(new SeasonTiers().movingShare(), 0.0f);
            SeasonTiers x = Check.of(STORE);
            x.move(0, 1);
            x.unmove();
            is(x.movingShare(), 0.0f);
            SeasonTiers y = Check.of("cycle 2;tier a 9 0 0 0 0;tier b 9 0 0 0 0;file x 1 on a;");
            y.use(0, 5);
            y.move(0, 1);
            y.close();
            is(y.movingShare(), 0.0f);
            SeasonTiers z = Check.of("cycle 2;tier a 99999 99 99 99 99;tier b 99999 7 13 3 11;file x 997 on a;");
            z.use(0, 9999);
            z.close();
            z.move(0, 1);
            z.use(0, 8191);
            z.close();
            long moving = 997L * (99 + 3);
            is(z.movingShare(), (float) moving / (float) (moving + 997L * 99 * 10000 + 997L * 7 + 997L * 13 * 8191));
        });
    }

    private static void promise17() {
        section("Promise 17: cost");
        says("Returns what a file costs on a tier, as told for plans. | number of a file | if the file or the tier does not exist",
                () -> fileNumbers((x, n) -> x.cost(n, 0, 1)));
        says("number of a tier", () -> tierNumbers((x, n) -> x.cost(0, n, 1)));
        says("1 to 24 | Throws `IllegalArgumentException` if periods is out of range", () -> periodNumbers((x, h) -> x.cost(0, 1, h)));
        says("Returns the cost.", () -> {
            SeasonTiers x = Check.of(STORE);
            is(x.cost(0, 0, 1), 30);
            is(x.cost(0, 1, 24), 240);
            SeasonTiers y = greatest();
            y.use(0, 9999);
            y.close();
            is(y.cost(0, 0, 24), 24L * 999 * 99 * 10000);
            is(y.cost(0, 1, 24), 0);
        });
    }

    private static void promise18() {
        section("Promise 18: wish");
        says("Finds the tier that a file would best be on, whatever room there is and whether it is pinned", () -> {
            SeasonTiers x = Check.of("cycle 2;tier a 9 9 0 0 0;tier b 1 1 0 0 0;file x 9 on a pin 99;file y 1 on b;");
            is(x.wish(0, 1), 1);
            is(x.steps(1), 0);
        });
        says("that by the move to which it saves most, if that is more than 0, of several the lowest one; otherwise its own.", () -> {
            SeasonTiers x = Check.of("cycle 2;tier a 9 2 0 0 1;tier b 9 1 0 0 0;tier c 9 1 0 0 0;file x 9 on a;file y 1 on b;");
            is(x.wish(0, 1), 0);
            is(x.wish(0, 2), 1);
            x.setTier(1, 3, 1);
            is(x.wish(0, 2), 2);
            is(x.wish(1, 24), 1);
            x.setTier(0, 1, 0);
            is(x.wish(1, 1), 0);
            x.setTier(1, 4, 1);
            is(x.wish(1, 1), 1);
        });
        says("number of a file | if the file does not exist", () -> fileNumbers((x, n) -> x.wish(n, 1)));
        says("1 to 24 | if periods is out of range", () -> periodNumbers((x, h) -> x.wish(1, h)));
        says("Returns the number of the tier.", () -> {
            is(Check.of("cycle 2;tier a 9 9 0 0 0;tier b 9 8 0 0 0;tier c 9 7 0 0 0;tier d 9 6 0 0 0;file x 9 on a;").wish(0, 1), 3);
            is(Check.of("cycle 2;tier a 9 5 0 0 0;tier b 9 8 0 0 0;tier c 9 7 0 0 0;tier d 9 6 0 0 0;file x 9 on d;").wish(0, 1), 0);
            SeasonTiers x = onFourTiers();
            for (int f = 0; f < 20; f++) {
                is(x.wish(f, 1), f <= 6 ? 1 : 2);
            }
        });
    }

    /** 20 files on tiers a and d, where each saves 8 minus its uses by going to b, and 2 by going to c. */
    private static SeasonTiers onFourTiers() {
        StringBuilder text = new StringBuilder("cycle 2;tier a 99 9 0 0 0;tier b 99 1 1 0 0;tier c 99 5 0 2 0;tier d 99 9 0 0 0;");
        for (int i = 0; i < 20; i++) {
            text.append("file ").append((char) ('a' + i)).append(" 1 on ").append(i % 2 == 0 ? "a;" : "d;");
        }
        SeasonTiers x = Check.of(text.toString());
        for (int i = 1; i < 20; i++) {
            x.use(i, i);
        }
        x.close();
        x.close();
        return x;
    }

    private static void promise19() {
        section("Promise 19: steps");
        says("1 to 24 | if periods is out of range", () -> periodNumbers((x, h) -> x.steps(h)));
        says("Returns how many steps the plan for some periods has. | Returns how many.", () -> {
            is(new SeasonTiers().steps(24), 0);
            is(withFiles(1).steps(1), 1);
            is(withFiles(20).steps(24), 20);
            is(onFourTiers().steps(1), 20);
            SeasonTiers x = Check.of("cycle 2;tier a 1 9 0 0 0;tier b 1 0 9 0 0;file x 1 on a;file y 1 on b;");
            is(x.steps(1), 0);
            x.use(1, 9);
            x.close();
            is(x.steps(1), 1);
        });
    }

    private static void promise20() {
        section("Promise 20: step");
        says("Returns a number of a step of a plan. | 1 to 24 | if periods or what is out of range",
                () -> periodNumbers((x, h) -> withFiles(1).step(h, 0, 0)));
        says("0 for the first one | if there is no such step", () -> {
            SeasonTiers x = withFiles(20);
            is(x.step(1, 0, 0), 0);
            is(x.step(1, 19, 0), 19);
            indexBeside(20, n -> x.step(1, n, 0));
            indexBeside(1, n -> withFiles(1).step(24, n, 2));
            indexBeside(0, n -> new SeasonTiers().step(24, n, 1));
        });
        says("0: its file (of an exchange the first one); 1: the other file of an exchange (NONE for a move); 2: the tier to which its file comes "
                + "| Returns the requested number.", () -> {
            SeasonTiers x = Check.of("cycle 2;tier a 1 0 9 0 0;tier b 1 9 0 0 0;file x 1 on a;file y 1 on b;");
            x.use(0, 9);
            x.close();
            is(x.step(1, 0, 0), 0);
            is(x.step(1, 0, 1), 1);
            is(x.step(1, 0, 2), 1);
            x.setTier(0, 0, 2);
            is(x.step(1, 0, 0), 1);
            is(x.step(1, 0, 1), NONE);
            is(x.step(1, 0, 2), 0);
            argumentBeside(0, 2, n -> x.step(1, 0, n));
        });
    }

    private static void promise21() {
        section("Promise 21: saving");
        says("Returns what a plan saves in all. | Returns the sum of what its steps save.", () -> {
            is(new SeasonTiers().saving(24), 0);
            is(withFiles(1).saving(1), 8);
            is(withFiles(20).saving(24), 20 * 24 * 8);
            SeasonTiers x = greatest();
            for (int f = 0; f < 20; f++) {
                x.use(f, 9999);
            }
            x.close();
            is(x.saving(24), 24L * 19980 * 99 * 10000 - 19980 * 99);
        });
        says("1 to 24 | if periods is out of range", () -> periodNumbers((x, h) -> x.saving(h)));
    }

    private static void promise22() {
        section("Promise 22: withRoom");
        says("number of a tier | if the tier does not exist", () -> tierNumbers((x, n) -> x.withRoom(n, 1, 1)));
        says("0 to 99999 | if more or periods is out of range", () -> {
            SeasonTiers x = Check.of(STORE);
            is(x.withRoom(0, 0, 1), 0);
            is(x.withRoom(1, 99999, 24), 0);
            argumentBeside(0, 99999, n -> x.withRoom(0, n, 1));
        });
        says("1 to 24", () -> periodNumbers((x, h) -> x.withRoom(1, 1, h)));
        says("Returns by how much more a plan would save if a tier had more room.", () -> {
            SeasonTiers x = Check.of("cycle 2;tier a 99999 9 0 0 0;tier b 4 1 0 0 0;file x 5 on a;file y 2 on a;");
            is(x.withRoom(1, 0, 1), 0);
            is(x.withRoom(1, 1, 1), 40 - 16);
            is(x.withRoom(1, 2, 1), 40 - 16);
            is(x.withRoom(1, 3, 1), 40);
            is(x.withRoom(1, 99999, 24), 40 * 24);
            is(x.withRoom(0, 99999, 1), 0);
            is(x.tier(1, 0), 4);
            is(x.saving(1), 16);
            SeasonTiers y = Check.of("cycle 2;tier a 99999 9 0 0 0;tier b 99999 1 0 0 0;file x 5 on a;");
            is(y.withRoom(1, 99999, 1), 0);
        });
        says("Returns how much more (below 0 if it would save less).", () -> {
            // With one unit more the greatest one goes, which saves most, and then there is no room for the two.
            SeasonTiers x = Check.of("cycle 2 rate 8;tier a 99 0 9 0 0;tier b 4 0 0 0 0;file x 5 on a;file y 2 on a;file z 2 on a;");
            x.use(0, 2);
            x.use(1, 4);
            x.use(2, 4);
            x.close();
            is(x.saving(1), 9 * (8 + 8));
            is(x.withRoom(1, 1, 1), 9 * (10 - 16));
            is(x.withRoom(1, 3, 1), 9 * (18 - 16));
        });
    }

    private static void promise23() {
        section("Promise 23: add");
        says("Adds a file behind all others, without a name (it is written as a hyphen), not pinned, never used.", () -> {
            SeasonTiers x = Check.of(STORE);
            x.use(1, 9);
            x.pin(1, 9);
            close(x, 3);
            x.drop(1);
            is(x.add(5, 1), 1);
            int[] due = {5, 1, 0, 0, 0, 0, 0, 0, NONE, 0};
            numbers(x, new int[][] {{10, 0}, due});
            is(x.season(1, 0), NONE);
            is(x.off(1), 0);
            is(x.forecast(1, 0), 0);
            is(Check.written(x), "hot:a cold:-");
            x.add(5, 1);
            is(Check.written(x), "hot:a cold:-,-");
        });
        says("1 to 999 | if size is out of range", () -> {
            argumentBeside(1, 999, n -> Check.of(STORE).add(n, 1));
            is(Check.of(STORE).add(1, 1), 2);
            is(Check.of(STORE.replace("1000", "1019")).add(999, 1), 2);
            argument(() -> withFiles(20).add(0, 0));
            argument(() -> withFiles(20).add(1000, 0));
        });
        says("number of a tier | if the tier does not exist", () -> {
            tierNumbers((x, n) -> x.add(1, n));
            index(() -> withFiles(20).add(1, 2));
        });
        says("Returns its number; -11 or -15 if it is refused.", () -> {
            SeasonTiers x = new SeasonTiers();
            is(x.add(10, 0), 0);
            is(x.add(1, 0), -15);
            is(x.add(10, 1), 1);
            is(x.count(3), 2);
            is(x.undo(), 1);
            SeasonTiers y = withFiles(19);
            is(y.add(1, 1), 19);
            is(y.add(1, 1), -11);
            is(y.add(999, 1), -11);
            is(y.count(3), 20);
            is(y.undo(), 1);
            is(y.add(99, 1), 19);
        });
    }

    private static void promise24() {
        section("Promise 24: drop");
        says("Drops a file, pinned or not; those behind it have one number less.", () -> {
            for (int gone = 0; gone < 3; gone++) {
                SeasonTiers x = Check.of(TIERS + "file x 1 on a pin 9;file y 2 on b;file z 3 on a pin 9;");
                is(x.drop(gone), 2);
                for (int f = 0; f < 2; f++) {
                    is(x.file(f, 0), f < gone ? f + 1 : f + 2);
                }
                index(() -> x.file(2, 0));
            }
        });
        says("Moves of other files can still be undone, its own cannot.", () -> {
            for (int gone = 0; gone < 3; gone++) {
                SeasonTiers x = Check.of(TIERS + "file x 1 on a;file y 2 on a;file z 3 on a;");
                x.move(1, 1);
                x.move(0, 1);
                x.move(2, 1);
                x.move(1, 0);
                x.drop(gone);
                int[][] left = {{0, 1, 0}, {1, 0}, {1, 0, 1}};
                is(x.count(6), left[gone].length);
                for (int mover : left[gone]) {
                    is(x.unmove(), mover);
                }
                is(x.unmove(), -16);
                is(x.tier(1, 6), 0);
            }
        });
        says("number of a file | if the file does not exist", () -> fileNumbers((x, n) -> x.count(3) == 2 && n == 1 ? x.count(3) : x.drop(n)));
        says("Returns the number of files then.", () -> {
            SeasonTiers x = withFiles(20);
            for (int i = 19; i >= 0; i--) {
                is(x.drop(i), i);
            }
            index(() -> x.drop(0));
            is(x.count(7), 0);
            is(x.undo(), 7);
            is(x.count(3), 1);
        });
    }

    private static void promise25() {
        section("Promise 25: use");
        says("number of a file | if the file does not exist", () -> fileNumbers((x, n) -> x.use(n, 1)));
        says("1 to 9999 | if times is out of range", () -> {
            SeasonTiers x = Check.of(STORE);
            argumentBeside(1, 9999, n -> x.use(0, n));
            is(x.use(0, 1), 1);
            is(x.use(1, 9999), 9999);
            argument(() -> x.use(1, 10000));
            argument(() -> x.use(1, 0));
        });
        says("Uses a file in the period at hand. | Returns its uses in the period at hand then; -18 if it is refused.", () -> {
            SeasonTiers x = Check.of(STORE);
            is(x.use(0, 1), 1);
            is(x.use(0, 9999), -18);
            is(x.file(0, 2), 1);
            is(x.use(0, 9998), 9999);
            is(x.use(0, 1), -18);
            is(x.use(0, 9999), -18);
            is(x.file(0, 2), 9999);
            is(x.undo(), 2);
            is(x.file(0, 2), 1);
            x.close();
            is(x.use(0, 1), 1);
        });
    }

    private static void promise26() {
        section("Promise 26: close");
        says("Closes the period at hand.", () -> {
            SeasonTiers x = Check.of(STORE);
            x.close();
            is(x.count(4), 1);
            is(x.file(0, 5), 1);
            is(x.undo(), 1);
            is(x.count(4), 0);
            is(x.file(0, 5), 0);
        });
        says("Returns the costs of keeping and reading in it; -17 if it is refused.", () -> {
            is(new SeasonTiers().close(), 0);
            SeasonTiers x = Check.of(STORE);
            x.move(0, 1);
            is(x.close(), 30);
            x.use(0, 1);
            is(x.close(), 30 + 50);
            SeasonTiers y = greatest();
            for (int f = 0; f < 20; f++) {
                y.use(f, 9999);
            }
            is(y.close(), 19980L * 99 * 10000);
            // No period that 512 calls can reach is refused.
            SeasonTiers z = new SeasonTiers();
            for (int i = 0; i < 511; i++) {
                is(z.close(), 0);
            }
            is(z.count(4), 511);
        });
    }

    private static void promise27() {
        section("Promise 27: move");
        says("Moves a file to a tier. | number of a file | if the file or the tier does not exist", () -> fileNumbers((x, n) -> x.move(n, 1)));
        says("number of a tier", () -> {
            tierNumbers((x, n) -> x.move(0, n));
            index(() -> Check.of(STORE.replace("on hot", "on hot pin 1")).move(0, 2));
        });
        says("Returns what it costs; -13, -14 or -15 if it is refused.", () -> {
            SeasonTiers x = Check.of("cycle 2;tier a 11 0 0 0 0;tier b 10 0 0 0 99;tier c 5 0 0 99 0;file x 5 on a;file y 6 on a pin 1;file z 5 on b;");
            is(x.move(0, 1), 0);
            is(x.move(0, 2), 5 * 198);
            is(x.move(2, 2), -15);
            is(x.move(2, 1), -14);
            is(x.move(1, 1), -13);
            is(x.move(1, 0), -13);
            is(x.count(6), 2);
            is(x.undo(), 2);
            is(x.file(0, 1), 1);
            is(x.move(2, 2), 5 * 198);
        });
    }

    private static void promise28() {
        section("Promise 28: unmove");
        says("Undoes the latest move of the period at hand that was not undone: the file comes back to the tier where it was "
                + "(even if it is pinned now), and what the move cost is taken off the account.", () -> {
            SeasonTiers x = Check.of(STORE);
            x.move(0, 1);
            x.move(1, 0);
            x.pin(0, 9);
            x.pin(1, 9);
            is(x.account(NONE, 2), 20 + 20 * 4);
            is(x.unmove(), 1);
            is(x.account(0, 2), 10);
            is(x.account(1, 2), 10);
            is(x.unmove(), 0);
            is(x.account(NONE, 3), 0);
            is(x.count(5), 2);
            is(Check.written(x), "hot:a cold:b");
        });
        says("The two moves of an exchange are undone one after the other, that of the first file last (room is asked for each by itself).", () -> {
            SeasonTiers x = Check.of("cycle 2;tier a 10 9 0 1 1;tier b 10 0 9 1 1;file x 10 on a;file y 9 on b;");
            x.use(1, 9);
            x.close();
            is(x.act(1), 2);
            is(Check.written(x), "a:y b:x");
            is(x.unmove(), -15);
            x.setTier(1, 0, 18);
            is(x.unmove(), -15);
            x.setTier(1, 0, 19);
            is(x.unmove(), 1);
            is(Check.written(x), "a: b:x,y");
            x.setTier(0, 0, 9);
            is(x.unmove(), -15);
            x.setTier(0, 0, 10);
            is(x.unmove(), 0);
            is(Check.written(x), "a:x b:y");
            is(x.account(NONE, 2), 0);
        });
        says("Returns the number of the file; -15 if there is no room; -16 if there is no such move.", () -> {
            is(new SeasonTiers().unmove(), -16);
            SeasonTiers x = Check.of(STORE);
            is(x.unmove(), -16);
            x.move(0, 1);
            x.add(91, 0);
            is(x.unmove(), -15);
            is(x.count(6), 1);
            is(x.undo(), 2);
            x.add(90, 0);
            is(x.unmove(), 0);
            is(x.unmove(), -16);
            x.move(0, 1);
            x.close();
            is(x.unmove(), -16);
        });
    }

    private static void promise29() {
        section("Promise 29: pin");
        says("Pins a file. | number of a file | if the file does not exist", () -> fileNumbers((x, n) -> x.pin(n, 1)));
        says("0 to 9999: the period until which it is pinned (it is not pinned now if that is not ahead) | if until is out of range", () -> {
            SeasonTiers x = Check.of(STORE);
            argumentBeside(0, 9999, n -> x.pin(0, n));
            is(x.file(0, 3), 0);
            x.pin(0, 0);
            is(x.file(0, 4), 0);
            x.pin(0, 1);
            is(x.file(0, 4), 1);
            x.pin(0, 9999);
            is(x.file(0, 4), 1);
            close(x, 5);
            x.pin(0, 5);
            is(x.file(0, 4), 0);
            is(x.move(0, 1), 20);
            x.pin(0, 6);
            is(x.file(0, 4), 1);
            is(x.move(0, 0), -13);
        });
        says("Returns the period before (0 if it never was).", () -> {
            SeasonTiers x = Check.of(STORE.replace("on cold", "on cold pin 7"));
            is(x.pin(0, 9999), 0);
            is(x.pin(0, 3), 9999);
            is(x.pin(1, 0), 7);
            is(x.pin(1, 2), 0);
            close(x, 3);
            is(x.pin(0, 0), 3);
        });
    }

    private static void promise30() {
        section("Promise 30: act");
        says("1 to 24 | if periods is out of range", () -> periodNumbers((x, h) -> x.act(h)));
        says("Carries out the plan for some periods: all of its moves and exchanges, in order.", () -> {
            // Only when z, which saves most, has gone to b, is there room for y on c.
            SeasonTiers x = Check.of("cycle 2;tier a 9 2 0 0 0;tier b 5 1 0 0 0;tier c 5 9 0 0 1;file x 4 on a;file z 5 on c;");
            planIs(x, 1, "1>1", 35);
            is(x.act(1), 1);
            is(x.unmove(), 1);
            SeasonTiers y = withFiles(20);
            is(y.act(24), 20);
            is(y.tier(1, 6), 20);
            for (int f = 19; f >= 0; f--) {
                is(y.unmove(), f);
            }
        });
        says("Returns how many files were moved.", () -> {
            is(new SeasonTiers().act(24), 0);
            is(withFiles(1).act(1), 1);
            SeasonTiers x = Check.of("cycle 2;tier a 1 9 0 1 2;tier b 1 0 9 3 4;file x 1 on a;file y 1 on b;");
            is(x.act(1), 0);
            x.use(1, 9);
            x.close();
            is(x.act(1), 2);
            is(x.count(6), 2);
            is(x.account(0, 2), 3);
            is(x.account(1, 2), 7);
            is(x.undo(), 4);
            is(x.count(6), 0);
        });
    }

    private static void promise31() {
        section("Promise 31: learn");
        says("2 to 12 | if cycle or rate is out of range", () -> {
            argumentBeside(2, 12, n -> Check.of(STORE).learn(n, 4));
            is(Check.of(STORE).learn(2, 4), 2);
            is(Check.of(STORE).learn(12, 4), 2);
        });
        says("1 to 8", () -> {
            argumentBeside(1, 8, n -> Check.of(STORE).learn(2, n));
            is(Check.of(STORE).learn(2, 1), 2);
            is(Check.of(STORE).learn(2, 8), 2);
        });
        says("Sets the cycle and the rate anew; all seasons are learned again.", () -> {
            SeasonTiers x = used("cycle 2 rate 8", 1);
            use(x, 2, 3, 4, 5, 6, 7, 8, 9, 10, 11, 12, 13, 14, 15, 16, 17, 18, 19, 20, 21, 22, 23, 24, 25);
            // Of 25 periods the first is not kept any more.
            x.learn(12, 8);
            is(x.season(0, 0), 25 * 16);
            is(x.season(0, 1), 14 * 16);
            is(x.season(0, 11), 24 * 16);
            x.learn(12, 4);
            is(x.season(0, 0), (13 + 25) * 8);
            is(x.season(0, 1), (2 + 14) * 8);
            is(x.count(0), 12);
            is(x.count(1), 4);
            is(x.file(0, 5), 24);
            SeasonTiers y = withFiles(20);
            y.use(19, 3);
            y.close();
            is(y.learn(12, 8), 2);
            is(y.season(19, 0), 48);
            is(y.season(19, 1), NONE);
        });
        says("Returns the cycle before.", () -> {
            SeasonTiers x = Check.of(TIERS.replace("cycle 2", "cycle 12"));
            is(x.learn(2, 4), 12);
            is(x.learn(2, 5), 2);
            is(x.learn(12, 5), 2);
        });
    }

    private static void promise32() {
        section("Promise 32: setTier");
        says("number of a tier | if the tier does not exist", () -> tierNumbers((x, n) -> x.setTier(n, 1, 1)));
        says("0 to 4, as with tier()", () -> {
            SeasonTiers x = Check.of(STORE);
            argumentBeside(0, 4, n -> x.setTier(0, n, 50));
            for (int what = 0; what < 5; what++) {
                x.setTier(1, what, 60 + what);
            }
            for (int what = 0; what < 5; what++) {
                is(x.tier(1, what), 60 + what);
                is(x.tier(0, what), new int[] {100, 3, 1, 2, 1}[what]);
            }
        });
        says("in its range | for any other what, or if value is out of its range", () -> {
            SeasonTiers x = Check.of(STORE);
            argumentBeside(1, 99999, n -> x.setTier(0, 0, n));
            for (int what = 1; what < 5; what++) {
                int number = what;
                argumentBeside(0, 99, n -> x.setTier(0, number, n));
                x.setTier(0, what, 0);
                is(x.tier(0, what), 0);
                x.setTier(0, what, 99);
                is(x.tier(0, what), 99);
            }
            x.setTier(0, 0, 99999);
            is(x.tier(0, 0), 99999);
            SeasonTiers y = new SeasonTiers();
            is(y.setTier(0, 0, 1), 10);
            is(y.tier(0, 0), 1);
        });
        says("Returns the number before; -15 if it is refused, as its files have more than the room would be.", () -> {
            SeasonTiers x = Check.of(STORE);
            is(x.setTier(0, 0, 9), -15);
            is(x.tier(0, 0), 100);
            is(x.setTier(0, 0, 10), 100);
            is(x.setTier(0, 0, 1), -15);
            is(x.setTier(1, 0, 19), -15);
            is(x.setTier(1, 0, 20), 1000);
            is(x.undo(), 2);
            is(x.tier(1, 0), 1000);
            // Numbers of costs are not held against the files' sizes.
            is(x.setTier(0, 1, 0), 3);
            is(x.setTier(0, 4, 5), 1);
        });
    }

    private static void promise33() {
        section("Promise 33: undo");
        says("Undoes the latest change that has not been undone.", () -> {
            SeasonTiers x = new SeasonTiers();
            x.add(1, 0);
            x.add(2, 0);
            x.add(3, 0);
            x.undo();
            is(x.count(7), 3);
            x.undo();
            is(x.count(7), 1);
            x.add(7, 0);
            x.undo();
            is(x.count(7), 1);
            x.undo();
            is(x.count(7), 0);
        });
        says("Returns the number of changes that can still be undone. | if there is no change to undo", () -> {
            SeasonTiers x = new SeasonTiers();
            state(x::undo);
            close(x, 9);
            for (int i = 7; i >= 0; i--) {
                is(x.undo(), i);
            }
            state(x::undo);
            is(x.count(4), 1);
            x.close();
            is(x.undo(), 0);
            state(x::undo);
        });
    }

    private static void promise34() {
        section("Promise 34: save");
        says("Saves everything that undo brings back (moves that unmove() can undo, too), but not which changes can be undone, "
                + "in place of what was saved there.", () -> {
            SeasonTiers x = Check.of(STORE);
            x.use(0, 3);
            x.close();
            x.use(1, 4);
            x.move(0, 1);
            String before = Check.told(x);
            x.save(0);
            is(x.undo(), 4);
            x.close();
            Check.load(x, FOUR);
            x.restore(0);
            is(Check.told(x), before);
            is(x.unmove(), 0);
            is(x.undo(), 7);
            is(x.undo(), 6);
            is(x.count(2), 4);
            x.save(0);
            x.undo();
            x.restore(0);
            is(x.count(2), 4);
        });
        says("0 or 1 | if there is no such slot", () -> {
            SeasonTiers x = Check.of(STORE);
            indexBeside(2, n -> {
                x.save(n);
                return "saved";
            });
            state(() -> x.restore(0));
            x.save(1);
            state(() -> x.restore(0));
            x.drop(0);
            x.save(0);
            x.restore(1);
            is(x.count(3), 2);
            x.restore(0);
            is(x.count(3), 1);
        });
    }

    private static void promise35() {
        section("Promise 35: restore");
        says("Brings back what was saved, which stays saved.", () -> {
            SeasonTiers x = Check.of(STORE);
            x.save(1);
            for (int i = 0; i < 3; i++) {
                x.use(0, 5);
                x.close();
                x.drop(1);
                is(x.restore(1), 0);
                is(x.file(0, 2), 0);
                is(x.file(1, 0), 20);
                is(x.file(0, 5), 0);
            }
            is(x.undo(), 7);
            is(x.count(3), 1);
            is(x.restore(1), 0);
        });
        says("0 or 1 | if there is no such slot", () -> {
            indexBeside(2, n -> new SeasonTiers().restore(n));
            SeasonTiers x = new SeasonTiers();
            x.save(0);
            x.save(1);
            indexBeside(2, x::restore);
            is(x.restore(0) + x.restore(1), 0);
        });
        says("Returns the number of the period at hand then.", () -> {
            SeasonTiers x = new SeasonTiers();
            x.save(0);
            close(x, 25);
            x.save(1);
            x.close();
            is(x.restore(0), 0);
            is(x.restore(1), 25);
            is(x.count(4), 25);
        });
        says("if nothing is saved there", () -> {
            SeasonTiers x = new SeasonTiers();
            state(() -> x.restore(0));
            state(() -> x.restore(1));
            x.save(0);
            state(() -> x.restore(1));
            is(x.restore(0), 0);
        });
    }

    private static void promise36() {
        section("Promise 36: writeTiers");
        says("Writes all tiers, in place of what was written before: for each one its name, a colon, and the names of its files by their numbers, "
                + "separated by commas; tiers separated by spaces.", () -> {
            SeasonTiers x = Check.of(FOUR + "file z 1 on d;file y 1 on a;file x 1 on d;");
            is(Check.written(x), "a:y b: c: d:z,x");
            x.move(1, 3);
            is(Check.written(x), "a: b: c: d:z,y,x");
            x.add(1, 3);
            x.add(1, 2);
            is(Check.written(x), "a: b: c:- d:z,y,x,-");
            while (x.count(3) > 0) {
                x.drop(0);
            }
            is(Check.written(x), "a: b: c: d:");
        });
        says("Returns the length of the text.", () -> {
            is(new SeasonTiers().writeTiers(), 5);
            StringBuilder text = new StringBuilder("cycle 2;");
            StringBuilder due = new StringBuilder();
            for (int t = 0; t < 4; t++) {
                text.append("tier ").append((char) ('a' + t)).append("zzzzzzz 99 1 1 1 1;");
                due.append(t == 0 ? "" : " ").append((char) ('a' + t)).append("zzzzzzz:");
            }
            // The longest names that a text has room for.
            for (int i = 0; i < 16; i++) {
                text.append("file qqqqqqq").append((char) ('a' + i)).append(" 1on dzzzzzzz;");
                due.append(i == 0 ? "" : ",").append("qqqqqqq").append((char) ('a' + i));
            }
            SeasonTiers x = Check.of(text.toString());
            for (int i = 16; i < 20; i++) {
                x.add(1, 3);
                due.append(",-");
            }
            is(x.writeTiers(), due.length());
            is(Check.written(x), due.toString());
        });
    }

    private static void promise37() {
        section("Promise 37: writtenByte");
        says("Returns a byte of the text that was written last; there is none at first.", () -> {
            SeasonTiers x = new SeasonTiers();
            indexBeside(0, x::writtenByte);
            x.add(1, 0);
            is(x.writeTiers(), 6);
            x.drop(0);
            Check.load(x, FOUR);
            is(x.writtenByte(2), '-');
            is(x.writtenByte(5), ':');
            x.writeTiers();
            is(x.writtenByte(2), ' ');
        });
        says("0 for the first byte | Returns the byte. | if there is no such byte", () -> {
            SeasonTiers x = Check.of(STORE);
            is(x.writeTiers(), 12);
            is(x.writtenByte(0), 'h');
            is(x.writtenByte(11), 'b');
            indexBeside(12, x::writtenByte);
            x.drop(1);
            is(x.writtenByte(11), 'b');
            is(x.writeTiers(), 11);
            indexBeside(11, x::writtenByte);
        });
    }
}
