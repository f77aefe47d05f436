/** Long runs of thrown calls: each answer is held against the Oracle's. */
public final class RandomRunsTest {
    private static final int CALLS = 500;

    private final FireSale x = new FireSale();
    private final Oracle o = new Oracle();
    private final Dice dice;
    private final int run;

    private RandomRunsTest(int run) {
        this.run = run;
        dice = new Dice(run);
    }

    private void due(String call, long got, long want) {
        Check.due("run " + run + ": " + call, got, want);
    }

    /** A world whose houses stand near their floors, so that a spiral is likely. */
    private String world() {
        StringBuilder all = new StringBuilder();
        int assets = dice.from(1, 4);
        int houses = dice.from(1, 6);
        int[] base = new int[assets];
        for (int a = 0; a < assets; a++) {
            base[a] = dice.from(1, 200);
            all.append("asset ").append(base[a]).append(' ').append(dice.upTo(dice.oneIn(3) ? 9 : 2))
                    .append(";");
        }
        int pieces = dice.oneIn(2) ? 60 : 12;
        for (int h = 0; h < houses; h++) {
            int cash = dice.upTo(dice.oneIn(3) ? 3000 : 60);
            int worth = cash;
            StringBuilder held = new StringBuilder();
            for (int a = 0; a < assets; a++) {
                int n = dice.upTo(pieces);
                worth += n * base[a];
                held.append(' ').append(n);
            }
            int floor = dice.upTo(dice.oneIn(2) ? 30 : 900);
            int debt = Math.max(0, Math.min(9999, worth - floor - dice.from(-20, 60)));
            all.append("house ").append(cash).append(' ').append(debt).append(' ').append(floor)
                    .append(' ').append(dice.from(1, 99)).append(' ').append(dice.upTo(1))
                    .append(held).append(';');
        }
        for (int i = dice.upTo(2 * houses); i > 0 && houses > 1; i--) {
            int from = dice.below(houses);
            int to = (from + dice.from(1, houses - 1)) % houses;
            all.append("loan ").append(from).append(' ').append(to).append(' ')
                    .append(dice.upTo(40)).append(";\n");
        }
        if (dice.oneIn(2)) {
            all.append("cap ").append(dice.below(assets)).append(' ').append(dice.upTo(100))
                    .append(';');
        }
        if (dice.oneIn(2)) {
            all.append("shock ").append(dice.below(assets)).append(' ').append(dice.upTo(5))
                    .append(';');
        }
        return all.toString();
    }

    private void feed(String text) {
        for (int i = 0; i < text.length(); i += 20) {
            int[] n = new int[5];
            for (int j = 0; j < 20; j++) {
                int b = i + j < text.length() ? text.charAt(i + j) : ' ';
                n[j / 4] = n[j / 4] << 8 | b;
            }
            due("feed", x.feed(n[0], n[1], n[2], n[3], n[4]), o.feed(n[0], n[1], n[2], n[3], n[4]));
        }
        int more = (20 - text.length() % 20) % 20;
        due("back " + more, x.back(more), o.back(more));
    }

    private void text() {
        String text = world();
        if (dice.oneIn(2)) {
            text = OracleBroken.broken(text, dice);
        }
        feed(text);
        due("text " + text, x.text(), o.text());
    }

    private int house() {
        return dice.near(0, o.w.houses.size() - 1);
    }

    private int asset() {
        return dice.near(0, o.w.assets.size() - 1);
    }

    private int what() {
        return dice.oneIn(3) ? asset() : dice.near(4, 7);
    }

    private void act() {
        int a = house();
        int b = house();
        int c = asset();
        switch (dice.below(15)) {
            case 0 -> {
                int base = dice.near(1, 200);
                int slope = dice.near(0, 9);
                due("asset " + base + " " + slope, x.asset(base, slope), o.asset(base, slope));
            }
            case 1 -> {
                int cash = dice.near(0, dice.oneIn(3) ? 9999 : 50);
                int debt = dice.near(0, dice.oneIn(3) ? 9999 : 50);
                due("house " + cash + " " + debt, x.house(cash, debt), o.house(cash, debt));
            }
            case 2, 3 -> {
                int what = dice.near(0, 4);
                int v = what == 4 ? dice.near(0, 1)
                        : what == 3 ? dice.near(1, 99) : dice.near(0, dice.oneIn(4) ? 9999 : 900);
                due("set " + a + " " + what + " " + v, x.set(a, what, v), o.set(a, what, v));
            }
            case 4, 5 -> {
                int n = dice.near(0, 60);
                due("hold " + a + " " + c + " " + n, x.hold(a, c, n), o.hold(a, c, n));
            }
            case 6 -> {
                int v = dice.near(0, dice.oneIn(3) ? 999 : 40);
                due("loan " + a + " " + b + " " + v, x.loan(a, b, v), o.loan(a, b, v));
            }
            case 7 -> {
                int what = dice.near(0, 1);
                int v = what == 0 ? dice.near(1, 200) : dice.near(0, 9);
                due("curve " + c + " " + what + " " + v, x.curve(c, what, v), o.curve(c, what, v));
            }
            case 8, 9 -> {
                int shelf = dice.near(0, 2);
                int kind = dice.near(0, 1);
                int v = kind == 0 ? dice.near(0, 360) : dice.near(0, dice.oneIn(4) ? 200 : 9);
                due("lay " + shelf + " " + kind + " " + c + " " + v, x.lay(shelf, kind, c, v),
                        o.lay(shelf, kind, c, v));
            }
            case 10 -> {
                int shelf = dice.near(0, 2);
                int place = dice.near(0, 3);
                due("lift " + shelf + " " + place, x.lift(shelf, place), o.lift(shelf, place));
            }
            case 11 -> due("net " + a + " " + b, x.net(a, b), o.net(a, b));
            case 12 -> {
                if (dice.oneIn(3)) {
                    due("merge " + a + " " + b, x.merge(a, b), o.merge(a, b));
                }
            }
            case 13 -> {
                if (dice.oneIn(4)) {
                    due("close " + a, x.close(a), o.close(a));
                }
            }
            default -> {
                if (dice.oneIn(3)) {
                    due("live", x.live(), o.live());
                }
            }
        }
    }

    private void ask() {
        int a = house();
        int b = house();
        int c = asset();
        switch (dice.below(8)) {
            case 0 -> {
                int what = dice.near(0, 7);
                due("of " + a + " " + what, x.of(a, what), o.of(a, what));
            }
            case 1 -> due("holding " + a + " " + c, x.holding(a, c), o.holding(a, c));
            case 2 -> due("owes " + a + " " + b, x.owes(a, b), o.owes(a, b));
            case 3 -> {
                int what = dice.near(0, 4);
                due("ofAsset " + c + " " + what, x.ofAsset(c, what), o.ofAsset(c, what));
            }
            case 4 -> {
                int shelf = dice.near(0, 2);
                int place = dice.near(0, 3);
                int what = dice.near(0, 2);
                due("shelf " + shelf + " " + place + " " + what, x.shelf(shelf, place, what),
                        o.shelf(shelf, place, what));
            }
            case 5 -> {
                int i = dice.near(-1, 300);
                due("spell " + i, x.spell(i), o.spell(i));
            }
            default -> {
                int what = dice.near(0, 8);
                due("count " + what, x.count(what), o.count(what));
            }
        }
    }

    private void askState() {
        int which = dice.near(0, 3);
        int a = house();
        int c = asset();
        int what = what();
        int k = dice.oneIn(4) ? dice.near(0, 2000) : dice.near(0, 20);
        switch (dice.below(12)) {
            case 0 -> due("state " + which + " " + what, x.state(which, what),
                    o.state(which, what));
            case 1 -> {
                due("rounds false", x.rounds(false), o.rounds(false));
                due("rounds true", x.rounds(true), o.rounds(true));
            }
            case 2 -> due("price " + which + " " + c, x.price(which, c), o.price(which, c));
            case 3 -> due("worth " + which + " " + a, x.worth(which, a), o.worth(which, a));
            case 4, 5 -> {
                int of = dice.oneIn(3) ? -1 : c;
                due("mustSell " + which + " " + a + " " + of, x.mustSell(which, a, of),
                        o.mustSell(which, a, of));
            }
            case 6 -> due("round " + k + " " + what, x.round(k, what), o.round(k, what));
            case 7 -> due("worthIn " + k + " " + a, x.worthIn(k, a), o.worthIn(k, a));
            case 8 -> due("sharpest", x.sharpest(), o.sharpest());
            case 9 -> due("ranked " + a, x.ranked(a), o.ranked(a));
            case 10 -> due("fellIn " + a, x.fellIn(a), o.fellIn(a));
            default -> askNext(what);
        }
    }

    private int sold(int asset) {
        return dice.upTo(asset < o.w.assets.size() ? o.w.held(asset) : 0);
    }

    private void askNext(int what) {
        int sold = sold(0) * 1000 + sold(1);
        int more = sold(2) * 1000 + sold(3);
        int fallen = dice.below(1 << o.w.houses.size());
        if (dice.oneIn(3)) {
            sold = 1000 * x.state(1, 0) + Math.max(0, x.state(1, 1));
            more = 1000 * Math.max(0, x.state(1, 2)) + Math.max(0, x.state(1, 3));
            fallen = x.state(1, 4);
        }
        if (dice.oneIn(8)) {
            sold += dice.from(-5, 5) + 1000 * dice.from(-2, 2);
        } else if (dice.oneIn(8)) {
            more += dice.from(-5, 5) + 1000 * dice.from(-2, 2);
        } else if (dice.oneIn(8)) {
            fallen += dice.from(-64, 64);
        }
        String state = sold + " " + more + " " + fallen;
        due("next " + state + " " + what, x.next(sold, more, fallen, what),
                o.next(sold, more, fallen, what));
        due("isSteady " + state, x.isSteady(sold, more, fallen), o.isSteady(sold, more, fallen));
    }

    private void askFloat() {
        int which = dice.near(0, 3);
        int c = asset();
        switch (dice.below(5)) {
            case 0 -> due("index " + which, x.index(which), o.index(which));
            case 1 -> due("drop " + which, x.drop(which), o.drop(which));
            case 2 -> due("ratio " + which + " " + c, x.ratio(which, c), o.ratio(which, c));
            case 3 -> due("mood", x.mood(), o.mood());
            default -> due("hundredths", x.hundredths(), o.hundredths());
        }
    }

    private void askIf() {
        int a = house();
        int c = asset();
        int what = what();
        int coins = dice.near(0, dice.oneIn(3) ? 9999 : 60);
        int of = dice.oneIn(2) ? -1 : a;
        int gift = dice.near(1, dice.oneIn(3) ? 999 : 40);
        switch (dice.below(12)) {
            case 0, 1 -> due("rescue " + a + " " + coins + " " + what, x.rescue(a, coins, what),
                    o.rescue(a, coins, what));
            case 2 -> {
                int which = dice.near(0, 1);
                due("helper " + coins + " " + which, x.helper(coins, which),
                        o.helper(coins, which));
            }
            case 3 -> {
                int n = dice.near(0, 6);
                due("aid " + n + " " + gift + " " + of, x.aid(n, gift, of), o.aid(n, gift, of));
            }
            case 4, 5 -> {
                int n = dice.near(0, 360);
                due("buyer " + c + " " + n + " " + what, x.buyer(c, n, what), o.buyer(c, n, what));
            }
            case 6 -> due("domino " + a + " " + what, x.domino(a, what), o.domino(a, what));
            case 7 -> due("keystone", x.keystone(), o.keystone());
            case 8 -> due("pulls " + a, x.pulls(a), o.pulls(a));
            case 9, 10 -> {
                int v = dice.near(0, 100);
                due("stress " + v + " " + what, x.stress(v, what), o.stress(v, what));
            }
            default -> due("doubtful", x.doubtful(), o.doubtful());
        }
    }

    /** These the Oracle answers by trying all: so they are rare. */
    private void askDear() {
        int a = house();
        int c = asset();
        switch (dice.below(8)) {
            case 0 -> due("coinsFor " + a, x.coinsFor(a), o.coinsFor(a));
            case 1 -> due("capFor " + c, x.capFor(c), o.capFor(c));
            case 2 -> due("shockFor " + c, x.shockFor(c), o.shockFor(c));
            case 3 -> due("room " + a, x.room(a), o.room(a));
            case 4 -> due("fewest", x.fewest(), o.fewest());
            default -> {
                int n = dice.near(0, 3);
                int v = dice.near(1, 60);
                due("bestAid " + n + " " + v + " " + a, x.bestAid(n, v, a), o.bestAid(n, v, a));
                due("bestAid " + n + " " + v, x.bestAid(n, v, -1), o.bestAid(n, v, -1));
            }
        }
    }

    private void go() {
        if (!dice.oneIn(4)) {
            String text = world();
            feed(text);
            due("text " + text, x.text(), o.text());
        }
        // a text takes up to forty feeds; the 512 calls of an object are not to be passed
        for (int call = 0; call < CALLS - 90; call++) {
            switch (dice.below(12)) {
                case 0, 1 -> act();
                case 2 -> ask();
                case 3, 4, 5 -> askState();
                case 6, 7 -> askFloat();
                case 8, 9, 10 -> askIf();
                default -> {
                    if (dice.oneIn(3)) {
                        due("undo", x.undo(), o.undo());
                    }
                }
            }
        }
        askDear();
        text();
        due("length", x.spell(-1), o.spell(-1));
        due("undo", x.undo(), o.undo());
        Check.dueText("run " + run + " at its end", Check.spelt(x), o.spelt());
    }

    public static void main(String[] args) {
        int runs = args.length > 0 ? Integer.parseInt(args[0]) : 400;
        for (int run = 0; run < runs; run++) {
            new RandomRunsTest(run).go();
        }
        Check.end();
    }
}
