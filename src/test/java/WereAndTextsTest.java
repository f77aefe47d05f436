/** Promises 40 to 56, by hand: what were if, texts and counts. */
public final class WereAndTextsTest {
    /**
     * CALM: house 0 is worth 10 of floor 12, house 1 is worth 10. ROUND 1: 2 sold, price 18.
     * ROUND 2: 5 sold, price 15. ROUND 3: 9 sold, both fallen, price 11, LOST 81.
     */
    private static final String SPIRAL = "asset 20 1;house 0 90 12 1 0 5;house 0 70 0 1 0 4;";

    /** House 0 owes 1 ten, 1 owes 2 four: each is worth a little as long as those ahead stand. */
    private static final String CHAIN = "house 10 0 0 1 0;house 0 5 0 1 0;house 0 3 0 1 0;"
            + "loan 0 1 10;loan 1 2 4;";

    private static void due(String call, long got, long want) {
        Check.due(call, got, want);
    }

    private static void promise40() {
        FireSale x = Check.of(SPIRAL);
        due("40: house 1 stands by 10", x.rescue(1, 10, 4), 1);
        due("40: not by 9", x.rescue(1, 9, 4), 3);
        due("40: 5 are sold", x.rescue(1, 10, 0), 5);
        due("40: lost", x.rescue(1, 10, 5), 45);
        due("40: how many", x.rescue(1, 10, 6), 1);
        due("40: all sold", x.rescue(1, 10, 7), 5);
        due("40: 0 coins", x.rescue(0, 0, 5), 81);
        due("40: things are as they were", x.state(1, 5), 81);
        due("40: coins", x.rescue(0, -1, 5), -1);
        due("40: coins", x.rescue(0, 10000, 5), -1);
        due("40: house", x.rescue(2, 1, 5), -1);
        due("40: house", x.rescue(-1, 1, 5), -1);
        due("40: what", x.rescue(0, 1, 8), -1);
        due("40: no such asset", x.rescue(0, 1, 1), -1);
        x = Check.of("house 9999 9999 0 1 0;house 0 0 0 1 0;loan 0 1 999;");
        due("40: above 9999 together", x.rescue(0, 999, 6), 0);
        due("40: one less", x.rescue(0, 998, 6), 1);
    }

    private static void promises41And42() {
        FireSale x = Check.of(SPIRAL);
        due("41: house 0", x.helper(2, 0), 0);
        due("41: lost", x.helper(2, 1), 0);
        due("41: none helps, the first", x.helper(1, 0), 0);
        due("41: lost", x.helper(1, 1), 81);
        due("41: coins", x.helper(-1, 0), -1);
        due("41: coins", x.helper(10000, 0), -1);
        due("41: 9999", x.helper(9999, 1), 0);
        due("41: what", x.helper(1, -1), -1);
        due("41: what", x.helper(1, 2), -1);
        due("42: house 0", x.coinsFor(0), 2);
        due("42: house 1", x.coinsFor(1), -2);
        due("42: house 2", x.coinsFor(2), -1);
        due("42: house -1", x.coinsFor(-1), -1);
        x = Check.of("asset 20 1;house 0 70 0 1 0 4;house 0 90 12 1 0 5;");
        due("41: house 1", x.helper(2, 0), 1);
        due("41: lost", x.helper(2, 1), 0);
        due("41: no houses, what", new FireSale().helper(5, 2), -1);
        due("41: no houses", new FireSale().helper(5, 1), -2);
        x = Check.of("house 0 9999 0 1 0;house 0 0 0 1 0;");
        due("42: 9999 do", x.coinsFor(0), 9999);
        x.loan(0, 1, 1);
        due("42: 9999 do not", x.coinsFor(0), -2);
        x = Check.of("house 7 7 0 1 0;");
        due("42: none is needed", x.coinsFor(0), 0);
    }

    private static void promises43And44() {
        FireSale x = Check.of(SPIRAL);
        due("43: one", x.aid(1, 1, -1), 81);
        due("43: two", x.aid(2, 1, -1), 0);
        due("43: house 0 has both", x.aid(2, 1, 0) * 10 + x.aid(2, 1, 1), 20);
        due("43: house 0 has all", x.aid(3, 1, 0) * 10 + x.aid(3, 1, 1), 30);
        due("43: none", x.aid(0, 1, -1), 81);
        due("43: none", x.aid(0, 1, 0), 0);
        due("43: n", x.aid(-1, 1, -1), -1);
        due("43: n", x.aid(7, 1, -1), -1);
        due("43: v", x.aid(1, 0, -1), -1);
        due("43: v", x.aid(1, 1000, -1), -1);
        due("43: house", x.aid(1, 1, 2), -1);
        due("43: house", x.aid(1, 1, -2), -1);
        due("43: bounds", x.aid(6, 999, 0), 6);
        due("44: one", x.bestAid(1, 1, -1), 81);
        due("44: two", x.bestAid(2, 1, -1), 0);
        due("44: house 0 has both", x.bestAid(2, 1, 0) * 10 + x.bestAid(2, 1, 1), 20);
        due("44: of (2, 1), (3, 0) the first", x.bestAid(3, 1, 0) * 10 + x.bestAid(3, 1, 1), 21);
        due("44: none helps: (0, 1)", x.bestAid(1, 1, 0) * 10 + x.bestAid(1, 1, 1), 1);
        due("44: none", x.bestAid(0, 1, -1), 81);
        due("44: none", x.bestAid(0, 1, 1), 0);
        due("44: n", x.bestAid(-1, 1, -1), -1);
        due("44: n", x.bestAid(5, 1, -1), -1);
        due("44: v", x.bestAid(1, 0, -1), -1);
        due("44: v", x.bestAid(1, 1000, -1), -1);
        due("44: house", x.bestAid(1, 1, 2), -1);
        due("44: house", x.bestAid(1, 1, -2), -1);
        due("44: bounds", x.bestAid(4, 999, -1), 0);
        due("43: no houses", new FireSale().aid(0, 1, -1), -2);
        due("43: no houses, no such", new FireSale().aid(0, 1, 0), -1);
        due("44: no houses", new FireSale().bestAid(0, 1, -1), -2);
        due("44: no houses, no such", new FireSale().bestAid(0, 1, 0), -1);
        // one gift saves 12 at house 0 or 1; both gifts at house 2 save 36 together: AID sees it not
        x = Check.of("asset 10 1;asset 9 1;asset 9 1;house 0 31 0 1 0 3;house 0 28 0 1 0 0 3;"
                + "house 0 56 0 1 0 0 0 6;");
        due("43: lost now", x.aid(0, 1, -1), 9 + 9 + 36);
        due("43: one by one", x.aid(2, 1, -1), 36);
        due("43: house 0, then 1", x.aid(2, 1, 0) * 100 + x.aid(2, 1, 1) * 10 + x.aid(2, 1, 2), 110);
        due("44: both to house 2", x.bestAid(2, 1, -1), 18);
        due("44: has", x.bestAid(2, 1, 0) * 100 + x.bestAid(2, 1, 1) * 10 + x.bestAid(2, 1, 2), 2);
        // house 0 would need three gifts: rows tried earlier leave nothing with it
        x = Check.of("asset 10 1;asset 9 1;house 0 33 0 1 0 3;house 0 38 0 1 0 0 4;");
        due("44: two", x.bestAid(2, 1, -1), 9);
        due("44: have", x.bestAid(2, 1, 0) * 10 + x.bestAid(2, 1, 1), 2);
        due("44: four are one too few for both", x.bestAid(4, 1, -1), 9);
        due("43: of like ones the first gets all", x.aid(5, 1, -1) * 10 + x.aid(5, 1, 0), 165);
    }

    private static void promise45() {
        FireSale x = Check.of(SPIRAL);
        due("45: takes 2", x.buyer(0, 2, 5), 0);
        due("45: sold all the same", x.buyer(0, 2, 0), 2);
        due("45: none falls", x.buyer(0, 2, 4), 0);
        due("45: takes 1", x.buyer(0, 1, 5), 72);
        due("45: all fall", x.buyer(0, 1, 4), 3);
        due("45: takes 0", x.buyer(0, 0, 5), 81);
        due("45: takes more than is sold", x.buyer(0, 360, 5), 0);
        due("45: n", x.buyer(0, 361, 5), -1);
        due("45: n", x.buyer(0, -1, 5), -1);
        due("45: asset", x.buyer(1, 1, 5), -1);
        due("45: asset", x.buyer(-1, 1, 5), -1);
        due("45: what", x.buyer(0, 1, 8), -1);
        due("45: no such asset", x.buyer(0, 1, 1), -1);
        due("45: things are as they were", x.price(1, 0), 11);
    }

    private static void promises46And47() {
        FireSale x = Check.of(SPIRAL);
        // sold 2, price 18: house 0 is worth 0; sold 3: below
        due("46: cap", x.capFor(0), 2);
        due("46: asset", x.capFor(1), -1);
        due("46: asset", x.capFor(-1), -1);
        due("47: not with 0", x.shockFor(0), -2);
        due("47: asset", x.shockFor(1), -1);
        due("47: asset", x.shockFor(-1), -1);
        x.lay(0, 0, 0, 1);
        due("46: besides a lesser one", x.capFor(0), 360);
        // price 19 in LEAST: by a SHOCK of 1 it is 18, house 0 worth 0; by 2 less
        due("47: besides a cap", x.shockFor(0), 1);
        x.lay(2, 1, 0, 1);
        due("47: besides a shock", x.shockFor(0), 0);
        x.set(0, 1, 91);
        due("46: not with 0 even", Check.of("house 0 1 0 1 0;asset 9 0;").capFor(0), -2);
        due("47: all of it", Check.of("house 0 0 0 1 0;asset 9 0;").shockFor(0), 200);
        due("46: 0 only", Check.of("asset 9 1;house 0 18 1 1 0 2;").capFor(0), 0);
    }

    private static void promises48To50() {
        FireSale x = Check.of(CHAIN);
        due("48: none falls in LEAST", x.state(1, 4), 0);
        due("48: of 0", x.domino(0, 4), 7);
        due("48: of 1", x.domino(1, 4), 6);
        due("48: of 2", x.domino(2, 4), 4);
        due("48: how many", x.domino(1, 6), 2);
        due("48: house", x.domino(3, 4), -1);
        due("48: house", x.domino(-1, 4), -1);
        due("48: what", x.domino(0, 8), -1);
        due("48: no such asset", x.domino(0, 0), -1);
        due("49: keystone", x.keystone(), 0);
        due("50: of 0", x.pulls(0), 6);
        due("50: of 1", x.pulls(1), 4);
        due("50: of 2", x.pulls(2), 0);
        due("50: house", x.pulls(3), -1);
        due("50: house", x.pulls(-1), -1);
        x.loan(0, 1, 9);
        x.set(1, 1, 4);
        x.set(2, 1, 5);
        // house 2 is fallen in LEAST: no one pulls it
        due("50: that fall anyway", x.pulls(1), 0);
        due("50: but the others", x.pulls(0), 2);
        due("49: no houses", new FireSale().keystone(), -2);
        due("49: of several the first", Check.of("house 1 0 0 1 0;house 1 0 0 1 0;").keystone(), 0);
        x = Check.of("house 0 0 0 1 0;house 0 0 0 1 0;house 5 0 0 1 0;house 0 3 0 1 0;loan 2 3 4;");
        due("49: house 2", x.keystone(), 2);
        // the HOUSE told counts as FALLEN, but it sells by its WORTH alone
        x = Check.of("asset 9 1;house 5 0 0 1 0 3;house 5 12 0 1 0 1;loan 0 1 1;");
        due("48: sells nothing", x.domino(0, 7), 0);
        due("48: counts", x.domino(0, 4), 1);
        x.set(1, 1, 15);
        due("48: what house 1 sells then", x.domino(0, 7), 1);
        due("48: lost", x.domino(0, 5), 4);
    }

    private static void promises51To54() {
        FireSale x = Check.of(CHAIN);
        due("51: worth 0", x.room(0), 0);
        x.set(0, 0, 25);
        due("51: room", x.room(0), 15);
        x.set(0, 1, 0);
        x.loan(0, 1, 11);
        due("51: room", x.room(0), 14);
        x.set(1, 0, 4);
        due("51: all its CASH", x.room(1), 4);
        due("51: no CASH", x.room(2), 0);
        due("51: house", x.room(3), -1);
        due("51: house", x.room(-1), -1);
        due("51: one is fallen", Check.of(SPIRAL).room(0), -2);
        x = Check.of("asset 19 1;asset 9 0;house 0 85 8 1 0 5;house 0 0 0 1 0 0 2;");
        // of 100: 95 - 85 = 10; of 99: base 18 and 8, 90 - 85 = 5: sells 3, price 15: fallen
        due("52: of 100", x.stress(100, 6), 0);
        due("52: of 99", x.stress(99, 6), 1);
        due("52: lost from CALM then", x.stress(99, 5), 25);
        due("52: sold", x.stress(99, 0), 5);
        due("52: of 0", x.stress(0, 5), 0);
        due("52: of 0, all is sold", x.stress(0, 7), 5);
        due("52: below", x.stress(-1, 6), -1);
        due("52: above", x.stress(101, 6), -1);
        due("52: what", x.stress(50, 8), -1);
        due("52: no such asset", x.stress(50, 2), -1);
        due("53: fewest", x.fewest(), 100);
        x.set(0, 2, 0);
        // base 17 does, which takes 90 hundredths of 19
        due("53: fewest", x.fewest(), 90);
        x.lay(1, 1, 0, 1);
        due("53: shocks count", x.fewest(), 95);
        x.set(0, 1, 91);
        due("53: not with 100", x.fewest(), -2);
        due("53: 0 do", Check.of("asset 9 1;house 5 0 0 1 0 3;").fewest(), 0);
        due("54: none", Check.of(SPIRAL).doubtful(), 0);
        due("54: both", Check.of("asset 20 2;house 0 50 9 1 0 3;house 0 50 9 1 0 3;").doubtful(),
                3);
        due("54: not house 0, that falls anyway",
                Check.of("house 0 1 0 1 0;house 0 1 0 1 0;house 0 1 0 1 0;loan 1 2 2;loan 2 1 2;"
                + "loan 0 1 1;").doubtful(), 0);
        due("54: each holds the other one up",
                Check.of("house 0 1 0 1 0;house 2 1 0 1 0;house 2 1 0 1 0;loan 1 2 2;loan 2 1 2;")
                .doubtful(), 6);
    }

    private static void promises55And56() {
        String text = "asset 200 9;asset 1 0;house 9999 0 7 99 1 60 0;house 0 10 100 1 0 0 1;"
                + "loan 0 1 999;loan 1 0 5;cap 1 360;cap 0 0;shock 0 200;shock 1 3;";
        FireSale x = Check.of(text);
        Check.dueText("55", Check.spelt(x), text);
        due("55: length", x.spell(-1), text.length());
        due("55: behind the last one", x.spell(text.length()), -2);
        due("55: far", x.spell(Integer.MAX_VALUE), -2);
        due("55: below NONE", x.spell(-2), -1);
        due("55: far below", x.spell(Integer.MIN_VALUE), -1);
        x.lay(2, 0, 0, 5);
        Check.dueText("55: shelf 2 is not told", Check.spelt(x), text);
        int[] count = {2, 2, 1, 0, 2, 2, 1, 2, 61};
        for (int what = 0; what < count.length; what++) {
            due("56: count " + what, x.count(what), count[what]);
        }
        due("56: what 9", x.count(9), -1);
        due("56: what -1", x.count(-1), -1);
        x.feed(0, 0, 0, 0, 0);
        due("56: tape", x.count(3), 20);
        // the longest of all texts can be spelt whole, and fits on a tape
        StringBuilder all = new StringBuilder("asset 200 9;".repeat(4));
        all.append("house 9999 9999 9999 99 1 60 60 60 60;".repeat(6));
        for (int i = 0; i < 6; i++) {
            for (int j = 0; j < 6; j++) {
                all.append(i == j ? "" : "loan " + i + " " + j + " 999;");
            }
        }
        all.append("cap 3 360;".repeat(4)).append("shock 3 200;".repeat(4));
        due("55: the longest text", all.length() < 800 ? 1 : 0, 1);
        Check.dueText("55: the longest text", Check.spelt(Check.of(all.toString())),
                all.toString());
    }

    public static void main(String[] args) {
        promise40();
        promises41And42();
        promises43And44();
        promise45();
        promises46And47();
        promises48To50();
        promises51To54();
        promises55And56();
        Check.end();
    }
}
