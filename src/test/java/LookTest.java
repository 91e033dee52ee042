/** Promises 5 to 16: what is told of the store, its seasons, its forecasts and its account. */
public final class LookTest {
    private static final int NONE = SeasonTiers.NONE;
    private static final String TWO = "cycle 2;tier hot 100 3 1 2 1;tier cold 1000 1 5 1 2;";
    private static final String STORE = TWO + "file a 10 on hot;file b 20 on cold;";

    public static void main(String[] args) {
        promise5();
        promise6();
        promise7();
        promise8();
        seasonsMove();
        promise9();
        promise10();
        promise11();
        promise12();
        promise13();
        promise14();
        promise15();
        promise16();
        Check.end();
    }

    /** A store with one file x of size 1 that was used so in the periods before the one at hand. */
    private static SeasonTiers used(String head, int... uses) {
        SeasonTiers x = Check.of(head + ";tier a 10 1 1 1 1;tier b 10 1 1 1 1;file x 1 on a;");
        close(x, uses);
        return x;
    }

    private static void close(SeasonTiers x, int... uses) {
        for (int times : uses) {
            if (times > 0) {
                x.use(0, times);
            }
            x.close();
        }
    }

    private static void promise5() {
        SeasonTiers x = Check.of("cycle 5 rate 7;tier a 50 1 1 1 1;tier b 50 1 1 1 1;tier c 9 1 1 1 1;"
                + "file x 10 on a pin 1;file y 20 on b pin 2;file z 5 on c;");
        int[] first = {5, 7, 3, 3, 0, 2, 0, 35};
        for (int i = 0; i < first.length; i++) {
            Check.same("5: " + i, x.count(i), first[i]);
        }
        x.close();
        x.move(2, 0);
        x.move(2, 1);
        int[] second = {5, 7, 3, 3, 1, 1, 2, 35};
        for (int i = 0; i < second.length; i++) {
            Check.same("5: later " + i, x.count(i), second[i]);
        }
        x.close();
        Check.same("5: the pin ends", x.count(5), 0);
        Check.same("5: no moves of the period", x.count(6), 0);
        Check.refused("5: 8", Check.ARGUMENT, () -> x.count(8));
        Check.refused("5: -1", Check.ARGUMENT, () -> x.count(-1));
        Check.refused("5: far", Check.ARGUMENT, () -> x.count(Integer.MIN_VALUE));
    }

    private static void promise6() {
        SeasonTiers x = Check.of("cycle 2;tier a 50 1 2 3 4;tier b 60 5 6 7 8;tier c 9 99 98 97 96;"
                + "file v 10 on b;file w 20 on a;file x 5 on b;file y 7 on b;");
        int[][] due = {{50, 1, 2, 3, 4, 20, 1, 1}, {60, 5, 6, 7, 8, 22, 3, 0}, {9, 99, 98, 97, 96, 0, 0, NONE}};
        for (int t = 0; t < 3; t++) {
            for (int i = 0; i < 8; i++) {
                Check.same("6: tier " + t + " number " + i, x.tier(t, i), due[t][i]);
            }
        }
        x.use(2, 3);
        x.use(3, 3);
        x.use(0, 2);
        x.use(1, 9);
        Check.same("6: by forecast, not by use", x.tier(1, 7), 0);
        x.close();
        Check.same("6: most used, the lowest one", x.tier(1, 7), 2);
        x.use(3, 1);
        x.close();
        Check.same("6: phase 0 again", x.tier(1, 7), 2);
        x.close();
        Check.same("6: phase 1", x.tier(1, 7), 3);
        x.drop(1);
        Check.same("6: none", x.tier(0, 7), NONE);
        Check.refused("6: tier 3", Check.INDEX, () -> x.tier(3, 0));
        Check.refused("6: tier -1", Check.INDEX, () -> x.tier(-1, 0));
        Check.refused("6: what 8", Check.ARGUMENT, () -> x.tier(0, 8));
        Check.refused("6: what -1", Check.ARGUMENT, () -> x.tier(0, -1));
        Check.refused("6: both", Check.INDEX, () -> x.tier(3, 8));
    }

    private static void promise7() {
        SeasonTiers x = Check.of("cycle 3 rate 8;tier a 50 1 2 3 4;tier b 60 5 6 7 8;file v 10 on b pin 2;file w 20 on a;");
        fileIs(x, 0, 10, 1, 0, 2, 1, 0, 0, 0, NONE, 0);
        x.use(0, 3);
        fileIs(x, 0, 10, 1, 3, 2, 1, 0, 0, 0, NONE, 0);
        x.close();
        fileIs(x, 0, 10, 1, 0, 2, 1, 1, 0, 1, 0, 0);
        x.use(0, 5);
        x.close();
        fileIs(x, 0, 10, 1, 0, 2, 0, 2, 1, 2, 1, 32);
        x.use(0, 5);
        x.close();
        fileIs(x, 0, 10, 1, 0, 2, 0, 3, 2, 3, 1, 32);
        fileIs(x, 1, 20, 0, 0, 0, 0, 3, 2, 3, 0, 0);
        x.close();
        fileIs(x, 0, 10, 1, 0, 2, 0, 4, 3, 3, 1, 80);
        x.pin(1, 9);
        x.move(0, 0);
        fileIs(x, 0, 10, 0, 0, 2, 0, 4, 3, 3, 1, 80);
        fileIs(x, 1, 20, 0, 0, 9, 1, 4, 3, 3, 0, 0);
        Check.refused("7: file 2", Check.INDEX, () -> x.file(2, 0));
        Check.refused("7: file -1", Check.INDEX, () -> x.file(-1, 0));
        Check.refused("7: what 10", Check.ARGUMENT, () -> x.file(1, 10));
        Check.refused("7: what -1", Check.ARGUMENT, () -> x.file(1, -1));
        Check.refused("7: both", Check.INDEX, () -> x.file(2, 10));
    }

    private static void fileIs(SeasonTiers x, int file, int... numbers) {
        for (int i = 0; i < numbers.length; i++) {
            Check.same("7: file " + file + " number " + i + " in period " + x.count(4), x.file(file, i), numbers[i]);
        }
    }

    private static void promise8() {
        SeasonTiers x = used("cycle 3", 5, 2);
        Check.same("8: 0", x.season(0, 0), 80);
        Check.same("8: 1", x.season(0, 1), 32);
        Check.same("8: unknown", x.season(0, 2), NONE);
        Check.refused("8: phase 3", Check.INDEX, () -> x.season(0, 3));
        Check.refused("8: phase -1", Check.INDEX, () -> x.season(0, -1));
        Check.refused("8: file 1", Check.INDEX, () -> x.season(1, 0));
        Check.refused("8: file -1", Check.INDEX, () -> x.season(-1, 0));
        x.close();
        Check.same("8: a season of no use", x.season(0, 2), 0);
        x.add(1, 0);
        x.close();
        Check.same("8: of a later file, by the period's phase", x.season(1, 0), 0);
        Check.same("8: of a later file, unknown", x.season(1, 1), NONE);
    }

    private static void seasonsMove() {
        SeasonTiers x = used("cycle 2 rate 3", 1, 0, 0, 0);
        Check.same("8: 16 and -48/8", x.season(0, 0), 10);
        close(x, 0, 0);
        Check.same("8: 10 and -30/8, cut off toward 0", x.season(0, 0), 7);
        close(x, 1, 0);
        Check.same("8: 7 and 27/8, cut off toward 0", x.season(0, 0), 10);
        Check.same("8: rate 8 takes the latest", used("cycle 2 rate 8", 9, 0, 4).season(0, 0), 64);
        Check.same("8: rate 1", used("cycle 2 rate 1", 9, 0, 4).season(0, 0), 134);
        Check.same("8: rate 4 without it", used("cycle 2", 9, 0, 4).season(0, 0), 104);
        Check.same("8: the most uses", used("cycle 2 rate 7", 9999, 0, 0).season(0, 0), 19998);
        Check.same("8: the most uses again", used("cycle 2 rate 7", 0, 0, 9999).season(0, 0), 139986);
        Check.same("8: phase 11", used("cycle 12", 0, 0, 0, 0, 0, 0, 0, 0, 0, 0, 0, 3).season(0, 11), 48);
    }

    private static void promise9() {
        SeasonTiers x = used("cycle 2");
        Check.refused("9: none", Check.INDEX, () -> x.kept(0, 0));
        x.use(0, 7);
        Check.refused("9: not yet", Check.INDEX, () -> x.kept(0, 0));
        x.close();
        Check.same("9: one", x.kept(0, 0), 7);
        for (int i = 1; i <= 23; i++) {
            close(x, 7 + i);
        }
        Check.same("9: 24 are kept", x.file(0, 5), 24);
        Check.same("9: the oldest", x.kept(0, 0), 7);
        Check.same("9: the latest", x.kept(0, 23), 30);
        close(x, 99, 0);
        Check.same("9: still 24", x.file(0, 5), 24);
        Check.same("9: the oldest went", x.kept(0, 0), 9);
        Check.same("9: the next one", x.kept(0, 1), 10);
        Check.same("9: before the latest", x.kept(0, 22), 99);
        Check.same("9: the latest of no use", x.kept(0, 23), 0);
        Check.refused("9: place 24", Check.INDEX, () -> x.kept(0, 24));
        Check.refused("9: place -1", Check.INDEX, () -> x.kept(0, -1));
        Check.refused("9: file 1", Check.INDEX, () -> x.kept(1, 0));
        Check.refused("9: file -1", Check.INDEX, () -> x.kept(-1, 0));
        x.add(1, 0);
        x.use(1, 5);
        x.close();
        Check.same("9: a later file keeps less", x.file(1, 5), 1);
        Check.same("9: its own", x.kept(1, 0), 5);
    }

    private static void promise10() {
        SeasonTiers x = used("cycle 4");
        Check.same("10: without a season", x.forecast(0, 0), 0);
        close(x, 1, 0, 0);
        Check.same("10: the mean, rounded down", x.forecast(0, 0), 5);
        Check.same("10: phase 0", x.forecast(0, 1), 16);
        Check.same("10: phase 1", x.forecast(0, 2), 0);
        Check.same("10: the mean of those known", x.forecast(0, 4), 5);
        Check.same("10: 24 ahead", x.forecast(0, 24), 5);
        Check.same("10: 21 ahead", x.forecast(0, 21), 16);
        Check.refused("10: 25", Check.ARGUMENT, () -> x.forecast(0, 25));
        Check.refused("10: -1", Check.ARGUMENT, () -> x.forecast(0, -1));
        Check.refused("10: file 1", Check.INDEX, () -> x.forecast(1, 0));
        Check.refused("10: file -1", Check.INDEX, () -> x.forecast(-1, 0));
        Check.refused("10: both", Check.INDEX, () -> x.forecast(1, 25));
        x.use(0, 50);
        Check.same("10: uses not closed do not matter", x.forecast(0, 0), 5);
    }

    private static void promise11() {
        SeasonTiers x = used("cycle 3");
        close(x, 4);
        Check.same("11: the first is not scored", x.off(0), 0);
        close(x, 1);
        Check.same("11: by the mean", x.off(0), 48);
        close(x, 6);
        Check.same("11: by the mean of two", x.off(0), 48 + 56);
        close(x, 9);
        Check.same("11: by the season", x.off(0), 48 + 56 + 80);
        Check.same("11: scored", x.file(0, 6), 3);
        x.learn(5, 1);
        Check.same("11: learning scores nothing", x.off(0), 184);
        Check.same("11: learning scores none", x.file(0, 6), 3);
        Check.refused("11: file 1", Check.INDEX, () -> x.off(1));
        Check.refused("11: file -1", Check.INDEX, () -> x.off(-1));
    }

    private static void promise12() {
        SeasonTiers x = Check.of(STORE);
        Check.same("12: none", x.meanOff(), 0.0);
        x.use(0, 2);
        x.close();
        Check.same("12: none scored", x.meanOff(), 0.0);
        x.use(0, 1);
        x.close();
        Check.same("12: 16 and 0 of 2", x.meanOff(), 8.0);
        x.add(1, 0);
        x.close();
        Check.same("12: 16, 32, 0, 0 of 4", x.meanOff(), 12.0);
        x.use(2, 1);
        x.close();
        Check.same("12: a later file is scored too", x.meanOff(), (16 + 32 + 16 + 16) / 7.0);
        x.drop(0);
        Check.same("12: of files that are there", x.meanOff(), 4.0);
        x.drop(0);
        x.drop(0);
        Check.same("12: no files", x.meanOff(), 0.0);
    }

    private static void promise13() {
        SeasonTiers x = used("cycle 2", 1, 2);
        Check.same("13: two kept", x.cycleOf(0), NONE);
        close(x, 9);
        Check.same("13: three kept", x.cycleOf(0), 2);
        Check.same("13: three", used("cycle 2", 5, 0, 0, 5, 0, 0, 5).cycleOf(0), 3);
        Check.same("13: of several the least", used("cycle 2", 3, 3, 3, 3, 3, 3).cycleOf(0), 2);
        Check.same("13: 1/2 is more than 0", used("cycle 2", 5, 6, 5, 5).cycleOf(0), 3);
        Check.same("13: 3/2 is less than 2", used("cycle 2", 0, 0, 1, 2).cycleOf(0), 2);
        Check.same("13: of 12/5, 10/4, 8/3, 4/2 and 2/1", used("cycle 2", 0, 0, 1, 3, 5, 2, 2).cycleOf(0), 5);
        Check.same("13: twelve kept", used("cycle 2", 9, 0, 0, 0, 0, 0, 0, 0, 0, 0, 0, 0).cycleOf(0), 2);
        Check.same("13: thirteen kept", used("cycle 2", 9, 0, 0, 0, 0, 0, 0, 0, 0, 0, 0, 0, 9).cycleOf(0), 12);
        Check.same("13: no cycle 13", used("cycle 2", 9, 0, 0, 0, 0, 0, 0, 0, 0, 0, 0, 0, 0, 9).cycleOf(0), 2);
        Check.refused("13: file 1", Check.INDEX, () -> x.cycleOf(1));
        Check.refused("13: file -1", Check.INDEX, () -> x.cycleOf(-1));
    }

    private static void promise14() {
        SeasonTiers x = Check.of(TWO + "file a 1 on hot;file b 1 on hot;file c 1 on hot;");
        Check.same("14: none", x.commonCycle(), NONE);
        // a: every second period, b and c: every third and every fourth
        for (int i = 0; i < 13; i++) {
            for (int f = 0; f < 3; f++) {
                if (i % (f + 2) == 0) {
                    x.use(f, 8);
                }
            }
            x.close();
        }
        Check.same("14: a", x.cycleOf(0), 2);
        Check.same("14: b", x.cycleOf(1), 3);
        Check.same("14: c", x.cycleOf(2), 4);
        Check.same("14: of several the least", x.commonCycle(), 2);
        x.drop(0);
        Check.same("14: of two the least", x.commonCycle(), 3);
        x.add(1, 0);
        for (int i = 13; i < 23; i++) {
            for (int f = 0; f < 3; f++) {
                if (i % (f == 0 ? 3 : 4) == 0) {
                    x.use(f, 8);
                }
            }
            x.close();
        }
        Check.same("14: that of most", x.commonCycle(), 4);
        x.drop(2);
        x.drop(1);
        Check.same("14: that of the only one", x.commonCycle(), x.cycleOf(0));
        x.drop(0);
        Check.same("14: of no file any more", x.commonCycle(), NONE);
        Check.same("14: 12", used("cycle 2", 9, 0, 0, 0, 0, 0, 0, 0, 0, 0, 0, 0, 9).commonCycle(), 12);
        Check.same("14: without files", new SeasonTiers().commonCycle(), NONE);
        SeasonTiers y = used("cycle 2", 5, 0, 0, 5, 0, 0, 5);
        Check.same("14: once", y.commonCycle(), 3);
        Check.same("14: twice", y.commonCycle(), 3);
        y.undo();
        y.undo();
        Check.same("14: after undo", y.commonCycle(), 3);
        SeasonTiers z = used("cycle 2", 9, 0, 0, 0, 0, 0, 0, 0, 0, 0, 0, 0, 9);
        Check.same("14: 12 at first", z.commonCycle(), 12);
        close(z, 0, 0, 0, 0, 0, 0, 0, 0, 0, 0, 0, 0, 0, 0, 0, 0, 0, 0, 0, 0, 0, 0, 0, 0, 0, 0);
        Check.same("14: no longer", z.commonCycle(), 2);
        z.drop(0);
        Check.same("14: nor any more", z.commonCycle(), NONE);
        close(y, 5, 0, 5, 0, 5, 0, 5, 0, 5, 0, 5, 0, 5, 0, 5, 0, 5, 0, 5, 0, 5, 0, 5, 0);
        Check.same("14: another one now", y.commonCycle(), 2);
    }

    private static void promise15() {
        SeasonTiers x = Check.of(STORE);
        x.use(0, 3);
        x.use(1, 4);
        Check.same("15: costs of the period", x.close(), 480);
        accountIs(x, 0, 30, 30, 0);
        accountIs(x, 1, 20, 400, 0);
        accountIs(x, NONE, 50, 430, 0);
        Check.same("15: a move's cost", x.move(0, 1), 20);
        accountIs(x, 0, 30, 30, 10);
        accountIs(x, 1, 20, 400, 10);
        Check.same("15: a move back", x.move(0, 0), 40);
        accountIs(x, 0, 30, 30, 30);
        accountIs(x, 1, 20, 400, 30);
        accountIs(x, NONE, 50, 430, 60);
        x.drop(0);
        x.close();
        accountIs(x, 0, 30, 30, 30);
        accountIs(x, 1, 40, 400, 30);
        Check.refused("15: tier 2", Check.INDEX, () -> x.account(2, 0));
        Check.refused("15: tier -2", Check.INDEX, () -> x.account(-2, 0));
        Check.refused("15: what 4", Check.ARGUMENT, () -> x.account(0, 4));
        Check.refused("15: what -1", Check.ARGUMENT, () -> x.account(NONE, -1));
        Check.refused("15: both", Check.INDEX, () -> x.account(2, 4));
        SeasonTiers y = Check.of("cycle 2;tier a 99999 99 99 99 99;tier b 10 1 1 1 1;file x 999 on a;file y 999 on a;file z 999 on a;");
        for (int f = 0; f < 3; f++) {
            y.use(f, 9999);
        }
        Check.same("15: great costs", y.close(), 3L * 999 * 99 * 10000);
        Check.same("15: great sums", y.account(0, 3), 3L * 999 * 99 * 10000);
        Check.same("15: great sums of all", y.account(NONE, 3), 3L * 999 * 99 * 10000);
        Check.same("15: great sums of reading", y.account(NONE, 1), 3L * 999 * 99 * 9999);
    }

    private static void accountIs(SeasonTiers x, int tier, long keeping, long reading, long moving) {
        Check.same("15: keeping of " + tier, x.account(tier, 0), keeping);
        Check.same("15: reading of " + tier, x.account(tier, 1), reading);
        Check.same("15: moving of " + tier, x.account(tier, 2), moving);
        Check.same("15: all of " + tier, x.account(tier, 3), keeping + reading + moving);
    }

    private static void promise16() {
        SeasonTiers x = Check.of(STORE);
        Check.same("16: no costs", x.movingShare(), 0.0f);
        x.move(0, 1);
        Check.same("16: moving alone", x.movingShare(), 1.0f);
        x.use(1, 1);
        x.close();
        Check.same("16: 20 of 150", x.movingShare(), 20f / 150f);
        SeasonTiers y = Check.of(STORE);
        y.close();
        Check.same("16: no moving", y.movingShare(), 0.0f);
        SeasonTiers z = Check.of("cycle 2;tier a 99999 99 99 99 99;tier b 9999 1 1 1 1;file x 999 on a;");
        z.use(0, 9999);
        z.close();
        z.use(0, 9998);
        z.close();
        z.move(0, 1);
        Check.same("16: in floats", z.movingShare(), (float) (999L * 100) / (float) (999L * 99 * 19999 + 999L * 100));
    }
}
