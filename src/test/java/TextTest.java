/** Promises 1 to 4, 36 and 37: a new object, the text buffer, reading and writing. */
public final class TextTest {
    private static final String HEAD = "cycle 2;";
    private static final String TIERS = "cycle 2;tier a 10 1 1 1 1;tier b 10 1 1 1 1;";
    private static final String FOUR = TIERS + "tier c 10 1 1 1 1;tier d 10 1 1 1 1;";

    public static void main(String[] args) {
        promise1();
        promise2();
        promise3Good();
        promise3Replaces();
        promise3Head();
        promise3Tiers();
        promise3Files();
        promise3TooMany();
        promise3Odd();
        promise3Words();
        promise3Longest();
        promise4();
        promise36();
        promise37();
        Check.end();
    }

    private static void promise1() {
        SeasonTiers x = new SeasonTiers();
        int[] counts = {2, 4, 2, 0, 0, 0, 0, 0};
        for (int i = 0; i < counts.length; i++) {
            Check.same("1: count " + i, x.count(i), counts[i]);
        }
        int[] numbers = {10, 1, 1, 1, 1, 0, 0, SeasonTiers.NONE};
        for (int i = 0; i < numbers.length; i++) {
            Check.same("1: tier 0 number " + i, x.tier(0, i), numbers[i]);
            Check.same("1: tier 1 number " + i, x.tier(1, i), numbers[i]);
        }
        Check.refused("1: a third tier", Check.INDEX, () -> x.tier(2, 0));
        Check.refused("1: a file", Check.INDEX, () -> x.file(0, 0));
        Check.refused("1: what is saved in 0", Check.STATE, () -> x.restore(0));
        Check.refused("1: what is saved in 1", Check.STATE, () -> x.restore(1));
        Check.refused("1: a change", Check.STATE, x::undo);
        Check.same("1: account", x.account(SeasonTiers.NONE, 3), 0);
        Check.same("1: buffer", x.append(0, 0, 0, 0, 0), 0);
        Check.same("1: names", Check.written(x), "a: b:");
    }

    private static void promise2() {
        SeasonTiers x = new SeasonTiers();
        Check.same("2: nothing", x.append(0, 0, 0, 0, 0), 0);
        Check.same("2: four in each", x.append(0x6379636c, 0x65203220, 0x72617465, 0x20333b74, 0x69657220), 20);
        // "a 10 1 1 1 1;tier b 9 0 0 0 0;" with bytes of 0 in every place of an argument
        Check.same("2: zeros left out", x.append(0x00612031, 0x30002031, 0x20310020, 0x31203100, 0x003b0000), 33);
        Check.feed(x, "tier b 9 0 0 0 0;file q 1 on b;");
        Check.same("2: loaded", x.load(), 1);
        Check.same("2: in order", Check.written(x), "a: b:q");
        Check.same("2: rate", x.count(1), 3);
        Check.same("2: emptied by load", x.append(0, 0, 0, 0, 1), 1);
        Check.same("2: bytes above 127", x.append(-1, 0x80000080, 0, 0, 0), 7);
        x.load();
        for (int i = 0; i < 29; i++) {
            x.append(-1, -1, -1, -1, -1);
        }
        Check.same("2: near the end", x.append(-1, -1, -1, -1, 0x20202000), 599);
        Check.refused("2: two too many", Check.STATE, () -> x.append(0, 0x20, 0, 0x20000000, 0));
        Check.same("2: nothing was appended", x.append(0, 0, 0, 0, 0), 599);
        Check.same("2: the last place", x.append(0, 0, 0x200000, 0, 0), 600);
        Check.refused("2: a full buffer, a", Check.STATE, () -> x.append(1, 0, 0, 0, 0));
        Check.refused("2: a full buffer, b", Check.STATE, () -> x.append(0, 1, 0, 0, 0));
        Check.refused("2: a full buffer, c", Check.STATE, () -> x.append(0, 0, 1, 0, 0));
        Check.refused("2: a full buffer, d", Check.STATE, () -> x.append(0, 0, 0, 1, 0));
        Check.refused("2: a full buffer, e", Check.STATE, () -> x.append(0, 0, 0, 0, 1));
        Check.refused("2: a full buffer, all", Check.STATE, () -> x.append(1, 1, 1, 1, 1));
        Check.same("2: zeros still fit", x.append(0, 0, 0, 0, 0), 600);
    }

    private static void loads(String text, int files, String written) {
        SeasonTiers x = new SeasonTiers();
        Check.same("3: '" + text + "'", Check.load(x, text), files);
        Check.same("4: '" + text + "'", x.errorPosition(), SeasonTiers.NONE);
        Check.same("3: what '" + text + "' made", Check.written(x), written);
    }

    /** The bar stands where the error is and is no part of the text. */
    private static void fails(int code, String text) {
        int position = text.indexOf('|');
        String without = text.substring(0, position) + text.substring(position + 1);
        SeasonTiers x = new SeasonTiers();
        Check.same("3: '" + text + "'", Check.load(x, without), code);
        Check.same("4: '" + text + "'", x.errorPosition(), position);
        Check.same("3: after '" + text + "'", Check.written(x), "a: b:");
        Check.refused("3: a change by '" + text + "'", Check.STATE, x::undo);
    }

    private static void syntax(String text) {
        fails(SeasonTiers.SYNTAX_ERROR, text);
    }

    private static void value(String text) {
        fails(SeasonTiers.VALUE_ERROR, text);
    }

    private static void promise3Good() {
        loads(TIERS, 0, "a: b:");
        loads("cycle2rate8;tier a 1 0 0 0 0;tier b 99999 99 99 99 99;file x999on b pin9999;", 1, "a: b:x");
        loads("  cycle  12  rate  1  ;  tier  a  10  1  1  1  1  ;  tier b 10 1 1 1 1 ; file x 10 on a pin 0 ;  ", 1, "a:x b:");
        loads("cycle 0000000000000000002 rate 0008;tier a 00000000000099999 000 00099 0 0;tier b 0001 0 0 0 0;", 0, "a: b:");
        loads("cycle 2;tier tier 10 1 1 1 1;tier file 10 1 1 1 1;tier on 5 1 1 1 1;file on 1 on file pin 1;"
                + "file pin 2 on on;file file 3 on tier pin 2;", 3, "tier:file file:on on:pin");
        loads("cycle 2;tier abcdefgh 10 1 1 1 1;tier zyxwvuts 10 1 1 1 1;file abcdefgh 10 on zyxwvuts;file a 1 on abcdefgh;",
                2, "abcdefgh:a zyxwvuts:abcdefgh");
        loads(TIERS + "file x 4 on a;file y 6 on a;file z 10 on b;", 3, "a:x,y b:z");
        loads(FOUR + "file a 10 on d;", 1, "a: b: c: d:a");
        SeasonTiers x = Check.of("cycle 7 rate 5;tier a 11 12 13 14 15;tier b 21 22 23 24 25;file x 9 on b pin 3;");
        Check.same("3: the cycle", x.count(0), 7);
        Check.same("3: the rate", x.count(1), 5);
        for (int i = 0; i < 5; i++) {
            Check.same("3: a number of tier a", x.tier(0, i), 11 + i);
            Check.same("3: a number of tier b", x.tier(1, i), 21 + i);
        }
        Check.same("3: the size", x.file(0, 0), 9);
        Check.same("3: the tier", x.file(0, 1), 1);
        Check.same("3: the pin", x.file(0, 3), 3);
        Check.same("3: the rate without it", Check.of(TIERS).count(1), 4);
        Check.same("3: no pin without it", Check.of(TIERS + "file x 9 on b;").file(0, 3), 0);
    }

    private static void promise3Replaces() {
        SeasonTiers x = Check.of(TIERS + "file x 4 on a;file y 6 on b;");
        x.use(0, 5);
        x.close();
        x.move(0, 1);
        x.use(0, 3);
        x.pin(0, 9);
        Check.same("3: an error", Check.load(x, TIERS + "file z 4 on a;file w 6 on c;"), SeasonTiers.UNKNOWN);
        Check.same("3: the period stays", x.count(4), 1);
        Check.same("3: the files stay", Check.written(x), "a: b:x,y");
        Check.same("3: the moves stay", x.count(6), 1);
        Check.same("3: the empty buffer", x.append(0, 0, 0, 0, 0), 0);
        Check.same("3: files", Check.load(x, FOUR + "file v 1 on c;file w 6 on a;file x 1 on d;"), 3);
        Check.same("3: the period", x.count(4), 0);
        Check.same("3: moves", x.count(6), 0);
        for (int what = 0; what < 4; what++) {
            Check.same("3: all accounts", x.account(SeasonTiers.NONE, what), 0);
            Check.same("3: an account", x.account(1, what), 0);
        }
        int[] news = {1, 2, 0, 0, 0, 0, 0, 0, -1, 0};
        for (int i = 0; i < news.length; i++) {
            Check.same("3: a new file's number " + i, x.file(0, i), news[i]);
        }
        Check.same("3: a new file's seasons", x.season(0, 0), SeasonTiers.NONE);
        Check.same("3: a new file's off", x.off(0), 0);
        Check.same("3: the buffer is empty", x.append(0, 0, 0, 0, 0), 0);
        x.undo();
        Check.same("3: undone", Check.written(x), "a: b:x,y");
        Check.same("3: undone uses", x.file(0, 2), 3);
    }

    private static void promise3Head() {
        syntax("|");
        syntax("   |");
        syntax("|cyc");
        syntax("|cycles 2;");
        syntax("  |Cycle 2;");
        syntax("|2;");
        syntax("|rate 2;");
        syntax("cycle|");
        syntax("cycle |x;");
        syntax("cycle |-2;");
        syntax("cycle 2|");
        syntax("cycle 2 |2;");
        syntax("cycle 2 |rat 3;");
        syntax("cycle 2 |rates 3;");
        syntax("cycle 2 |pin 3;");
        syntax("cycle 2 rate |;");
        syntax("cycle 2 rate|");
        syntax("cycle 2 rate 3|");
        syntax("cycle 2 rate 3 |rate 3;");
        value("cycle |0;");
        value("cycle |1;");
        value("cycle |13;");
        value("cycle |0013 x");
        value("cycle |4294967298;");
        value("cycle |18446744073709551618;");
        value("cycle |99999999999999999999999999 rate 9;");
        value("cycle 2 rate |0;");
        value("cycle 2 rate |9;");
        value("cycle |1 rate 9;");
    }

    private static void promise3Tiers() {
        syntax(HEAD + "|");
        syntax(HEAD + "  |");
        syntax(HEAD + "|file x 1 on a;");
        syntax(HEAD + "|tiers a 1 1 1 1 1;");
        syntax(HEAD + "|;");
        syntax(HEAD + "tier|");
        syntax(HEAD + "tier |5 1 1 1 1 1;");
        syntax(HEAD + "tier |abcdefghi 1 1 1 1 1;");
        syntax(HEAD + "tier a |b 1 1 1 1;");
        syntax(HEAD + "tier a 10 1 1 1|;");
        syntax(HEAD + "tier a 10 1 1 1 1 |1;");
        syntax(HEAD + "tier a 10 1 1 1 1|");
        syntax(HEAD + "tier a 10 1 1 1 1;|");
        syntax(HEAD + "tier a 10 1 1 1 1;|file x 1 on a;");
        syntax(TIERS + "|tierc 10 1 1 1 1;");
        syntax(TIERS + "|;");
        syntax(TIERS + "tier c 10 1 1 1 1|");
        value(HEAD + "tier a |0 1 1 1 1;");
        value(HEAD + "tier a |100000 1 1 1 1;");
        value(HEAD + "tier a |999990 1 1 1 1;");
        value(HEAD + "tier a 10 |100 1 1 1;");
        value(HEAD + "tier a 10 1 |100 1 1;");
        value(HEAD + "tier a 10 1 1 |100 1;");
        value(HEAD + "tier a 10 1 1 1 |100;");
        fails(SeasonTiers.TWICE, HEAD + "tier a 10 1 1 1 1;tier |a");
        fails(SeasonTiers.TWICE, TIERS + "tier |b 0");
        fails(SeasonTiers.TWICE, FOUR.replace("tier d", "tier |a"));
    }

    private static void promise3Files() {
        syntax(TIERS + "|files x 1 on a;");
        syntax(TIERS + "|on");
        syntax(TIERS + "file|");
        syntax(TIERS + "file |1 on a;");
        syntax(TIERS + "file |abcdefghi 1 on a;");
        syntax(TIERS + "file x |on a;");
        syntax(TIERS + "file x|");
        syntax(TIERS + "file x 1 |;");
        syntax(TIERS + "file x 1 |at a;");
        syntax(TIERS + "file x 1 |one a;");
        syntax(TIERS + "file x 1 on|");
        syntax(TIERS + "file x 1 on |5;");
        syntax(TIERS + "file x 1 on |abcdefghi;");
        syntax(TIERS + "file x 1 on a|");
        syntax(TIERS + "file x 1 on a |5;");
        syntax(TIERS + "file x 1 on a |pins 5;");
        syntax(TIERS + "file x 1 on a |on a;");
        syntax(TIERS + "file x 1 on a pin|");
        syntax(TIERS + "file x 1 on a pin |;");
        syntax(TIERS + "file x 1 on a pin 5|");
        syntax(TIERS + "file x 1 on a pin 5 |pin 5;");
        syntax(TIERS + "file x 1 on a;|tier c 10 1 1 1 1;");
        syntax(FOUR + "file x 1 on a;|tier e 10 1 1 1 1;");
        value(TIERS + "file x |0 on a;");
        value(TIERS + "file x |1000 on a;");
        value(TIERS + "file x 1 on a pin |10000;");
        fails(SeasonTiers.UNKNOWN, TIERS + "file x 1 on |c");
        fails(SeasonTiers.UNKNOWN, TIERS + "file x 999 on |aa;");
        fails(SeasonTiers.NO_ROOM, TIERS + "file x 11 on |a");
        fails(SeasonTiers.NO_ROOM, TIERS + "file x 4 on a;file y 10 on b;file z 7 on |a;");
        fails(SeasonTiers.TWICE, TIERS + "file x 1 on a;file |x");
        fails(SeasonTiers.TWICE, TIERS + "file x 1 on a;file y 1 on a;file |x 0 on c;");
    }

    private static String files(int many) {
        StringBuilder text = new StringBuilder("cycle 2;tier a 99 1 1 1 1;tier b 10 1 1 1 1;");
        for (int i = 0; i < many; i++) {
            text.append("file ").append((char) ('a' + i)).append(" 1 on a;");
        }
        return text.toString();
    }

    private static void promise3TooMany() {
        fails(SeasonTiers.TOO_MANY, FOUR + "|tier");
        fails(SeasonTiers.TOO_MANY, FOUR + "  |tier a 0");
        syntax(FOUR + "|tiers e 1 1 1 1 1;");
        loads(files(20), 20, "a:a,b,c,d,e,f,g,h,i,j,k,l,m,n,o,p,q,r,s,t b:");
        fails(SeasonTiers.TOO_MANY, files(20) + "|file");
        fails(SeasonTiers.TOO_MANY, files(20) + " |file a 0 on z;");
        syntax(files(20) + "|filex 1 on a;");
        syntax(files(20) + "|tier c 1 1 1 1 1;");
    }

    private static void promise3Odd() {
        syntax("cycle 2|\t;");
        syntax("cycle 2;|\ntier");
        syntax("cycle 2;tier |A 10 1 1 1 1;");
        syntax("cycle 2;tier a|B 10 1 1 1 1;");
        syntax("cycle 2;tier |` 10 1 1 1 1;");
        syntax("cycle 2;tier |{ 10 1 1 1 1;");
        syntax("cycle |/;");
        syntax("cycle |:;");
        syntax("cycle 2|" + (char) 1 + ";");
        syntax("cycle 2|" + (char) 160 + ";");
        syntax(TIERS + "|" + (char) 255);
        syntax(TIERS + "|.");
    }

    /** Each word of the grammar with each of its letters wrong, one letter more, or one less. */
    private static void promise3Words() {
        String text = "cycle 2 rate 3;tier a 10 1 1 1 1;tier b 10 1 1 1 1;file x 1 on a pin 5;";
        for (String word : new String[] {"cycle", "rate", "tier", "file", "on", "pin"}) {
            int at = text.indexOf(word);
            String before = text.substring(0, at) + "|";
            String behind = text.substring(at + word.length());
            for (int i = 0; i < word.length(); i++) {
                char other = word.charAt(i) == 'z' ? 'y' : 'z';
                syntax(before + word.substring(0, i) + other + word.substring(i + 1) + behind);
            }
            syntax(before + word + word.charAt(0) + behind);
            syntax(before + word.substring(1) + behind);
            syntax(before + word.substring(0, word.length() - 1) + behind);
        }
    }

    /** Texts that fill the buffer to its last byte, with each kind of token at their end. */
    private static void promise3Longest() {
        String spaces = " ".repeat(600);
        loads(TIERS + spaces.substring(TIERS.length()), 0, "a: b:");
        loads(spaces.substring(TIERS.length()) + TIERS, 0, "a: b:");
        syntax(spaces + "|");
        syntax(spaces.substring(5) + "cycle|");
        syntax(spaces.substring(7) + "cycle 2|");
        value(spaces.substring(8) + "cycle |13");
        syntax(spaces.substring(4) + "|cycl");
        syntax(spaces.substring(14) + "cycle 2;tier a|");
        String huge = "9".repeat(594);
        value("cycle |" + huge);
        String zeros = "0".repeat(593);
        syntax("cycle " + zeros + "2|");
        fails(SeasonTiers.UNKNOWN, TIERS + spaces.substring(TIERS.length() + 12) + "file x 1on |z");
    }

    private static void promise4() {
        SeasonTiers x = new SeasonTiers();
        Check.same("4: no call", x.errorPosition(), SeasonTiers.NONE);
        Check.load(x, "cycle 20;");
        Check.same("4: an error", x.errorPosition(), 6);
        Check.load(x, "cycle 2 ");
        Check.same("4: a later error", x.errorPosition(), 8);
        Check.feed(x, TIERS);
        Check.same("4: append changes nothing", x.errorPosition(), 8);
        x.load();
        Check.same("4: no error", x.errorPosition(), SeasonTiers.NONE);
        Check.load(x, "x");
        x.undo();
        Check.same("4: undo changes nothing", x.errorPosition(), 0);
    }

    private static void promise36() {
        SeasonTiers x = Check.of("cycle 2;tier first 100 1 1 1 1;tier b 100 1 1 1 1;tier last 9 1 1 1 1;"
                + "file one 1 on b;file two 2 on last;file x 3 on b;file y 4 on first;");
        Check.same("36: length", x.writeTiers(), 24);
        Check.same("36: text", Check.written(x), "first:y b:one,x last:two");
        x.add(1, 1);
        x.move(3, 1);
        Check.same("36: by numbers, a hyphen", Check.written(x), "first: b:one,x,y,- last:two");
        x.add(2, 0);
        x.add(2, 0);
        x.drop(0);
        Check.same("36: two hyphens", Check.written(x), "first:-,- b:x,y,- last:two");
        StringBuilder text = new StringBuilder("cycle 2;tier aaaaaaaa 99 1 1 1 1;tier zzzzzzzz 99 1 1 1 1;");
        StringBuilder due = new StringBuilder("aaaaaaaa:");
        for (int i = 0; i < 20; i++) {
            // Without the space that may lack, the text is just short enough.
            text.append("file zzzzzzz").append((char) ('a' + i)).append(" 1on aaaaaaaa;");
            due.append(i == 0 ? "" : ",").append("zzzzzzz").append((char) ('a' + i));
        }
        Check.same("36: the longest names", Check.written(Check.of(text.toString())), due.append(" zzzzzzzz:").toString());
    }

    private static void promise37() {
        SeasonTiers x = new SeasonTiers();
        Check.refused("37: none at first", Check.INDEX, () -> x.writtenByte(0));
        x.writeTiers();
        Check.same("37: first", x.writtenByte(0), 'a');
        Check.same("37: colon", x.writtenByte(1), ':');
        Check.same("37: space", x.writtenByte(2), ' ');
        Check.same("37: last", x.writtenByte(4), ':');
        Check.refused("37: behind the last", Check.INDEX, () -> x.writtenByte(5));
        Check.refused("37: below", Check.INDEX, () -> x.writtenByte(-1));
        Check.refused("37: far", Check.INDEX, () -> x.writtenByte(Integer.MAX_VALUE));
        Check.refused("37: far below", Check.INDEX, () -> x.writtenByte(Integer.MIN_VALUE));
        x.add(1, 0);
        Check.refused("37: a change writes nothing", Check.INDEX, () -> x.writtenByte(5));
        x.writeTiers();
        Check.same("37: written anew", x.writtenByte(5), ':');
        x.undo();
        Check.same("37: not undone", x.writtenByte(5), ':');
        x.writeTiers();
        Check.refused("37: shorter", Check.INDEX, () -> x.writtenByte(5));
    }
}
