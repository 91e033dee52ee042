/** The example of README.md, which shows this file word for word and what it prints. */
public final class Example {
    public static void main(String[] args) {
        SeasonTiers store = new SeasonTiers();
        append(store, "cycle 2; tier hot 100 3 1 2 1; tier cold 1000 1 5 1 2;");
        append(store, "file a 10 on hot; file b 20 on cold;");
        System.out.println(store.load() + " files, " + written(store));

        System.out.println("b is used " + store.use(1, 3) + " times");
        System.out.println("keeping and reading cost " + store.close());
        System.out.println("the next forecast of b is " + store.forecast(1, 0) + " sixteenths of a use");

        int periods = 4;
        System.out.println("a plan of " + store.steps(periods) + " steps saves " + store.saving(periods));
        System.out.println("it brings file " + store.step(periods, 0, 0) + " to tier " + store.step(periods, 0, 2));
        System.out.println(store.act(periods) + " files were moved, " + written(store));
        System.out.println("moving cost " + store.account(SeasonTiers.NONE, 2));
        System.out.println(store.undo() + " more changes can be undone, " + written(store));

        System.out.println("a file of 95 units on hot: " + store.add(95, 0));
        append(store, "cycle 13;");
        System.out.println("a bad text: " + store.load() + " at " + store.errorPosition());
        try {
            store.file(2, 0);
        } catch (IndexOutOfBoundsException e) {
            System.out.println("there is no file 2");
        }
    }

    /** Appends a text, 20 bytes a call. */
    private static void append(SeasonTiers store, String text) {
        for (int i = 0; i < text.length(); i += 20) {
            store.append(four(text, i), four(text, i + 4), four(text, i + 8), four(text, i + 12), four(text, i + 16));
        }
    }

    /** Four bytes as one number, the first one highest; behind the end of the text they are 0. */
    private static int four(String text, int start) {
        int value = 0;
        for (int i = start; i < start + 4; i++) {
            value = value << 8 | (i < text.length() ? text.charAt(i) : 0);
        }
        return value;
    }

    private static String written(SeasonTiers store) {
        StringBuilder text = new StringBuilder();
        int length = store.writeTiers();
        for (int i = 0; i < length; i++) {
            text.append((char) store.writtenByte(i));
        }
        return text.toString();
    }
}
