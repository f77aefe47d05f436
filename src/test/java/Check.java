/** Counts answers that are not due; the tests share it. */
final class Check {
    private static int asked = 0;
    private static int wrong = 0;

    private Check() {
    }

    static void due(String call, long got, long want) {
        asked++;
        if (got != want) {
            wrong++;
            if (wrong <= 50) {
                System.out.println(call + " answered " + got + ", due is " + want);
            }
        }
    }

    /** Feeds the text, whatever its length: what was fed too much is taken back. */
    static void tell(FireSale x, String text) {
        int most = (text.length() + 19) / 20 * 20;
        int[] bytes = new int[most];
        for (int i = 0; i < text.length(); i++) {
            bytes[i] = text.charAt(i) & 255;
        }
        for (int i = 0; i < most; i += 20) {
            x.feed(four(bytes, i), four(bytes, i + 4), four(bytes, i + 8), four(bytes, i + 12),
                    four(bytes, i + 16));
        }
        x.back(most - text.length());
    }

    private static int four(int[] bytes, int at) {
        return bytes[at] << 24 | bytes[at + 1] << 16 | bytes[at + 2] << 8 | bytes[at + 3];
    }

    /** A new object that has read the text. */
    static FireSale of(String text) {
        FireSale x = new FireSale();
        tell(x, text);
        int answer = x.text();
        if (answer < 0) {
            due("text of " + text, answer, 0);
        }
        return x;
    }

    /** What spell tells, as a text. */
    static String spelt(FireSale x) {
        StringBuilder all = new StringBuilder();
        int length = x.spell(-1);
        for (int i = 0; i < length; i++) {
            all.append((char) x.spell(i));
        }
        return all.toString();
    }

    static void dueText(String call, String got, String want) {
        due(call + " (" + got + " for " + want + ")", got.equals(want) ? 1 : 0, 1);
    }

    static void end() {
        System.out.println(asked + " answers, " + wrong + " of them not as due");
        if (wrong != 0) {
            System.exit(1);
        }
    }
}
