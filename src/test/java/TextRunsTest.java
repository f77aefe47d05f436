/** Promise 4: thrown TEXTS, sound and broken ones, read as the Oracle reads them. */
public final class TextRunsTest {
    private static final String[] SIGNS = {"asset", "house", "loan", "cap", "shock", ";", ";", "0",
        "1", "5", "60", "61", "200", "201", "360", "361", "999", "1000", "9999", "10000", "00001",
        "0001", "asse", "assets", "caps", "Cap", "ho use", "-1", "+1", "1.5", ",", "/", ":", "`",
        "{", "\t", "\r", "\0", "\u0085", "\u00ff", " ", "\n"};

    private final Dice dice;
    private boolean wild = false;
    private int assets = 0;
    private int houses = 0;
    private int items = 0;

    private TextRunsTest(int run) {
        dice = new Dice(run);
    }

    private String sign() {
        return SIGNS[dice.below(SIGNS.length)];
    }

    /** Signs as they come: hardly one sentence is sound. */
    private String soup() {
        StringBuilder all = new StringBuilder();
        for (int i = dice.upTo(20); i > 0; i--) {
            all.append(sign()).append(dice.oneIn(5) ? "" : " ");
        }
        return all.toString();
    }

    /** Within the bounds, but in one text of four at times just outside of them. */
    private int number(int least, int most) {
        return wild ? dice.near(least, most) : dice.from(least, Math.max(least, most));
    }

    private String numbers(int... bounds) {
        StringBuilder all = new StringBuilder();
        for (int i = 0; i < bounds.length; i += 2) {
            all.append(dice.oneIn(8) ? " \n " : " ").append(dice.oneIn(8) ? "0" : "")
                    .append(number(bounds[i], bounds[i + 1]));
        }
        return all.toString();
    }

    private String house() {
        StringBuilder all = new StringBuilder("house");
        all.append(numbers(0, 999, 0, 999, 0, 999, 1, 99, 0, 1));
        for (int told = number(0, assets); told > 0 && told < 9; told--) {
            all.append(numbers(0, 60));
        }
        houses++;
        return all.toString();
    }

    private String sentence() {
        switch (dice.below(5)) {
            case 0:
                if (assets < 4 || wild) {
                    assets++;
                    return "asset" + numbers(1, 200, 0, 9);
                }
                return house();
            case 1:
                if (houses > 1 || wild) {
                    int from = number(0, houses - 1);
                    int to = wild ? number(0, houses - 1) : (from + 1) % houses;
                    return "loan " + from + " 0" + to + numbers(0, 999);
                }
                return house();
            case 2:
                if (assets > 0 && items < 4 || wild) {
                    items++;
                    return (dice.oneIn(2) ? "cap" : "shock") + numbers(0, assets - 1, 0, 200);
                }
                assets++;
                return "asset" + numbers(1, 200, 0, 9);
            default:
                return house();
        }
    }

    /** Sentences that are sound, but for what is one too many or one too much. */
    private String sentences() {
        StringBuilder all = new StringBuilder();
        wild = dice.oneIn(4);
        assets = 0;
        houses = 0;
        items = 0;
        for (int i = dice.upTo(wild ? 22 : 10); i > 0; i--) {
            all.append(sentence()).append(dice.oneIn(4) ? " ;" : ";")
                    .append(dice.oneIn(4) ? "\n" : "");
        }
        return all.toString();
    }

    /** A byte more or less, a sign in between, or an end too early. */
    private String broken(String text) {
        StringBuilder all = new StringBuilder(text);
        for (int i = dice.upTo(2); i > 0 && all.length() > 0; i--) {
            int at = dice.below(all.length());
            switch (dice.below(4)) {
                case 0 -> all.setLength(at);
                case 1 -> all.deleteCharAt(at);
                case 2 -> all.insert(at, sign());
                default -> all.replace(at, at + 1, sign());
            }
        }
        return all.toString();
    }

    private boolean go() {
        String text = dice.oneIn(5) ? soup() : broken(sentences());
        text = text.substring(0, Math.min(780, text.length()));
        FireSale x = new FireSale();
        Check.tell(x, text);
        OracleText o = new OracleText(text);
        int fault = o.fault();
        int due = fault >= 0 ? -4 - fault : o.world.houses.size();
        Check.due("4: text of " + text, x.text(), due);
        Oracle read = new Oracle();
        read.w = fault >= 0 ? read.w : o.world;
        Check.dueText("4: what is read of " + text, Check.spelt(x), read.spelt());
        return fault < 0;
    }

    public static void main(String[] args) {
        int runs = args.length > 0 ? Integer.parseInt(args[0]) : 20000;
        int sound = 0;
        for (int run = 0; run < runs; run++) {
            sound += new TextRunsTest(run).go() ? 1 : 0;
        }
        System.out.println(sound + " of " + runs + " are sound");
        Check.due("enough are sound", sound > runs / 10 && sound < runs / 2 ? 1 : 0, 1);
        Check.end();
    }
}
