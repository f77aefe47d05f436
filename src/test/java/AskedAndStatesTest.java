/** Promises 18 to 39, by hand: what is asked, states and floats. */
public final class AskedAndStatesTest {
    /**
     * CALM: house 0 is worth 10 of floor 12, house 1 is worth 10. ROUND 1: 2 sold, price 18.
     * ROUND 2: 5 sold, price 15. ROUND 3: 9 sold, both fallen, price 11.
     */
    private static final String SPIRAL = "asset 20 1;house 0 90 12 1 0 5;house 0 70 0 1 0 4;";

    private static void due(String call, long got, long want) {
        Check.due(call, got, want);
    }

    private static void promises18To20() {
        FireSale x = Check.of("asset 10 1;asset 9 2;house 11 12 13 14 1 15 16;house 0 0 0 1 0;"
                + "house 0 0 0 1 0;loan 0 1 5;loan 0 2 6;loan 1 0 7;loan 2 0 8;loan 1 2 1;");
        int[] want = {11, 12, 13, 14, 1, 31, 11, 15};
        for (int what = 0; what < 8; what++) {
            due("18: of 0 " + what, x.of(0, what), want[what]);
        }
        due("18: what 8", x.of(0, 8), -1);
        due("18: what -1", x.of(0, -1), -1);
        due("18: house 3", x.of(3, 0), -1);
        due("18: house -1", x.of(-1, 0), -1);
        due("19: holding", x.holding(0, 1), 16);
        due("19: none held", x.holding(1, 1), 0);
        due("19: asset 2", x.holding(0, 2), -1);
        due("19: asset -1", x.holding(0, -1), -1);
        due("19: house 3", x.holding(3, 0), -1);
        due("20: owes", x.owes(1, 0), 7);
        due("20: owes", x.owes(0, 1), 5);
        due("20: both one", x.owes(2, 2), 0);
        due("20: no such", x.owes(0, 3), -1);
        due("20: no such", x.owes(-1, 0), -1);
        due("20: no such one twice", x.owes(3, 3), -1);
    }

    private static void promises21And22() {
        FireSale x = Check.of("asset 10 1;asset 9 2;house 0 0 0 1 0 15 16;house 0 0 0 1 0 3;"
                + "cap 0 9;cap 1 8;cap 0 7;shock 0 3;shock 0 4;shock 1 1;");
        due("22: lay", x.lay(2, 0, 0, 8), 0);
        due("22: lay", x.lay(2, 1, 1, 2), 1);
        int[] want = {10, 1, 18, 7, 7};
        int[] other = {9, 2, 16, 8, 3};
        for (int what = 0; what < 5; what++) {
            due("21: of 0 " + what, x.ofAsset(0, what), want[what]);
            due("21: of 1 " + what, x.ofAsset(1, what), other[what]);
        }
        due("21: what 5", x.ofAsset(0, 5), -1);
        due("21: what -1", x.ofAsset(0, -1), -1);
        due("21: asset 2", x.ofAsset(2, 0), -1);
        due("21: asset -1", x.ofAsset(-1, 0), -1);
        x.asset(5, 0);
        due("21: without a cap", x.ofAsset(2, 3), 360);
        int[][] laid = {{0, 1, 0, 1, 8}, {1, 2, 1, 1, 1}, {2, 0, 0, 0, 8}, {2, 1, 1, 1, 2}};
        for (int[] place : laid) {
            for (int what = 0; what < 3; what++) {
                due("22: shelf", x.shelf(place[0], place[1], what), place[2 + what]);
            }
        }
        due("22: what 3", x.shelf(0, 0, 3), -1);
        due("22: what -1", x.shelf(0, 0, -1), -1);
        due("22: place", x.shelf(0, 3, 0), -1);
        due("22: place -1", x.shelf(0, -1, 0), -1);
        due("22: shelf 3", x.shelf(3, 0, 0), -1);
        due("22: shelf -1", x.shelf(-1, 0, 0), -1);
    }

    private static void states(FireSale x, int which, int[] want) {
        for (int i = 0; i < want.length; i++) {
            due("23: state " + which + " " + (i + 4), x.state(which, i + 4), want[i]);
        }
    }

    private static void promises23And24() {
        FireSale x = Check.of(SPIRAL);
        states(x, 0, new int[] {0, 0, 0, 0});
        states(x, 1, new int[] {3, 81, 2, 9});
        states(x, 2, new int[] {3, 81, 2, 9});
        states(x, 3, new int[] {3, 81, 2, 9});
        due("23: sold", x.state(1, 0), 9);
        due("23: no such asset", x.state(1, 1), -1);
        due("23: what 8", x.state(1, 8), -1);
        due("23: what -1", x.state(1, -1), -1);
        due("23: which 4", x.state(4, 4), -1);
        due("23: which -1", x.state(-1, 4), -1);
        due("24: least", x.rounds(false), 3);
        due("24: greatest", x.rounds(true), 0);
        x = Check.of("asset 10 1;asset 10 2;house 100 0 0 1 0 3 9;house 0 5 0 1 0;cap 1 4;");
        states(x, 1, new int[] {2, 0, 1, 0});
        states(x, 2, new int[] {2, 0, 1, 0});
        states(x, 3, new int[] {3, 9 + 72, 2, 7});
        due("23: held 9, cap 4", x.state(3, 1), 4);
        due("24: least", x.rounds(false), 1);
        due("24: greatest", x.rounds(true), 1);
        // each floor holds as long as the other one does not sell: LEAST and GREATEST are two
        x = Check.of("asset 20 2;house 0 50 9 1 0 3;house 0 50 9 1 0 3;");
        states(x, 1, new int[] {0, 0, 0, 0});
        states(x, 2, new int[] {3, 72, 2, 6});
        due("54: doubtful", x.doubtful(), 3);
    }

    private static void promises25To27() {
        FireSale x = Check.of(SPIRAL + "shock 0 1;");
        due("25: calm", x.price(0, 0), 19);
        due("25: least", x.price(1, 0), 10);
        due("25: no such", x.price(0, 1), -1);
        due("25: no such", x.price(0, -1), -1);
        due("25: no such", x.price(4, 0), -1);
        x.lay(1, 1, 0, 11);
        due("25: 0 at least", x.price(1, 0), 0);
        due("25: calm", x.price(0, 0), 8);
        x.lay(2, 1, 0, 9);
        due("25: calm, 0 at least", x.price(0, 0), 0);
        x = Check.of("asset 10 1;asset 7 0;house 4 50 20 6 0 3 5;house 5 0 0 1 0 1;"
                + "house 0 0 90 9 1 2 4;loan 1 0 3;loan 0 2 2;");
        // house 0: 4 + 30 + 35 + 3 - 50 - 2 = 20, at its floor; house 2: 20 + 28 + 2 = 50 of 90
        due("26: at its floor", x.worth(0, 0), 20);
        due("26: calm", x.worth(0, 2), 50);
        due("26: loans from fallen houses do not count", x.worth(3, 0), 4 + 12 + 35 - 50 - 2);
        due("26: loans of its own do", x.worth(3, 1), 5 + 4 - 3);
        due("26: no such", x.worth(0, 3), -1000000);
        due("26: no such", x.worth(0, -1), -1000000);
        due("26: no such", x.worth(-1, 0), -1000000);
        due("27: not above 0", x.mustSell(0, 0, -1), 0);
        due("27: 40 by 9, upwards", x.mustSell(0, 2, -1), 5);
        due("27: the last asset first", x.mustSell(0, 2, 1), 4);
        due("27: then the one ahead", x.mustSell(0, 2, 0), 1);
        x.set(2, 4, 0);
        due("27: the first asset first", x.mustSell(0, 2, 0), 2);
        due("27: then the next", x.mustSell(0, 2, 1), 3);
        x.set(2, 3, 10);
        due("27: 40 by 10", x.mustSell(0, 2, -1), 4);
        x.set(2, 3, 1);
        due("27: all its pieces at most", x.mustSell(0, 2, -1), 6);
        x.set(2, 2, 0);
        x.set(2, 1, 51);
        due("27: below 0, all", x.mustSell(0, 2, -1), 6);
        x.set(2, 1, 50);
        due("27: 0 is not below 0", x.mustSell(0, 2, -1), 0);
        due("27: no such", x.mustSell(0, 3, -1), -1);
        due("27: no such", x.mustSell(4, 0, -1), -1);
        due("27: no such", x.mustSell(0, 0, 2), -1);
        due("27: no such", x.mustSell(0, 0, -2), -1);
    }

    private static void promises28To32() {
        FireSale x = Check.of(SPIRAL);
        int[][] rounds = {{0, 0, 0, 0, 0}, {2, 0, 18, 0, 2}, {5, 0, 45, 0, 5}, {9, 3, 81, 2, 9}};
        int[][] worth = {{10, 10}, {0, 2}, {-15, -10}, {-35, -26}};
        for (int k = 0; k < 6; k++) {
            int[] want = rounds[Math.min(k, 3)];
            due("28: sold", x.round(k, 0), want[0]);
            for (int i = 1; i < 5; i++) {
                due("28: round " + k + " " + (i + 3), x.round(k, i + 3), want[i]);
            }
            due("29: worth", x.worthIn(k, 0), worth[Math.min(k, 3)][0]);
            due("29: worth", x.worthIn(k, 1), worth[Math.min(k, 3)][1]);
        }
        due("28: 2000", x.round(2000, 0), 9);
        due("28: 2001", x.round(2001, 0), -1);
        due("28: -1", x.round(-1, 0), -1);
        due("28: no such asset", x.round(1, 1), -1);
        due("28: what 8", x.round(1, 8), -1);
        due("29: 2000", x.worthIn(2000, 1), -26);
        due("29: 2001", x.worthIn(2001, 0), -1000000);
        due("29: -1", x.worthIn(-1, 0), -1000000);
        due("29: no such house", x.worthIn(0, 2), -1000000);
        due("30: 18, 27, 36", x.sharpest(), 3);
        due("30: none", Check.of("asset 9 0;house 0 20 9 1 0 2;").sharpest(), -2);
        // one piece more in each ROUND: LOST grows by 3 each time, the first one counts
        x = Check.of("asset 40 1;house 0 110 11 3 0 3;");
        due("30: 9 is lost", x.round(3, 5), 9);
        due("30: of several the first", x.sharpest(), 1);
        x = Check.of(SPIRAL);
        due("32: house 0", x.fellIn(0), 3);
        due("32: house 1", x.fellIn(1), 3);
        due("32: no such", x.fellIn(2), -1);
        due("32: no such", x.fellIn(-1), -1);
        due("31: like ones by numbers", x.ranked(0) * 10 + x.ranked(1), 1);
        due("31: k 2", x.ranked(2), -1);
        due("31: k -1", x.ranked(-1), -1);
        // house 3 falls, then 1 that it owes, then 0 that this one owes; 2 never
        x = Check.of("house 0 1 0 1 0;house 0 1 0 1 0;house 0 0 0 1 0;house 0 9 0 1 0;"
                + "loan 3 1 9;loan 1 0 5;");
        int[] order = {3, 1, 0, 2};
        int[] fell = {3, 2, -2, 1};
        for (int k = 0; k < 4; k++) {
            due("31: ranked " + k, x.ranked(k), order[k]);
            due("32: fell " + k, x.fellIn(k), fell[k]);
        }
    }

    private static FireSale promise33World() {
        return Check.of("asset 10 1;asset 7 0;asset 5 1;asset 5 1;"
                + "house 4 50 20 6 0 3 5 1 2;house 5 0 0 1 0 1;house 0 0 90 9 1 2 4;loan 1 0 3;"
                + "loan 0 2 2;cap 0 4;");
    }

    private static void promises33And34() {
        FireSale x = promise33World();
        due("33: calm", x.next(0, 0, 0, 7), 5);
        due("33: calm", x.next(0, 0, 0, 1), 4);
        // 6 and 9 are SOLD: house 0 is worth 4 + 12 + 35 + 5 + 10 + 3 - 52 = 17, sells 1
        // and house 2 is worth 8 + 28 + 2 = 38 of 90, sells all
        due("33: all held of 0, 1", x.next(6009, 0, 0, 0), 3);
        x.set(0, 3, 5);
        due("33: 3 by 5", x.next(6009, 0, 0, 0), 3);
        due("33: house 1 is fallen: 6 by 5", x.next(6009, 0, 2, 0), 4);
        due("33: nobody falls of it", x.next(6009, 0, 2, 4), 0);
        due("33: all of all", x.next(6009, 1002, 7, 4), 0);
        due("33: sold of 2", x.next(0, 1000, 0, 5), 18 - 12);
        due("33: more of 0", x.next(7000, 0, 0, 4), -2);
        due("33: more of 1", x.next(10, 0, 0, 4), -2);
        due("33: more of 2", x.next(0, 2000, 0, 4), -2);
        due("33: more of 3", x.next(0, 3, 0, 4), -2);
        due("33: below 0", x.next(-1000, 0, 0, 4), -2);
        due("33: below 0", x.next(0, -1, 0, 4), -2);
        due("33: below 0", x.next(0, 0, -1, 4), -2);
        due("33: house 3", x.next(0, 0, 8, 4), -2);
        due("33: what 8", x.next(0, 0, 0, 8), -1);
        due("33: NONE goes ahead", x.next(-1, 0, 0, -1), -1);
        due("33: no such asset", Check.of("asset 1 1;").next(1, 0, 0, 1), -1);
        due("33: sold of an asset that is not there",
                Check.of("asset 9 1;house 0 0 0 1 0 3;").next(1, 0, 0, 4), -2);
        Check.tell(x, "asset 9 1;house 0 0 0 1 0 3;house 5 0 0 1 0;house 5 0 0 1 0;");
        due("33: fewer assets now", x.text(), 3);
        due("33: nothing is held of 1 now", x.next(1, 0, 0, 4), -2);
        due("23: panic", x.state(3, 7), 3);
        x = promise33World();
        due("34: calm is not", x.isSteady(0, 0, 0), 0);
        due("34: least is", x.isSteady(1000 * x.state(1, 0) + x.state(1, 1),
                1000 * x.state(1, 2) + x.state(1, 3), x.state(1, 4)), 1);
        due("34: no state", x.isSteady(0, 0, 8), -2);
        due("34: no state", x.isSteady(0, 3, 0), -2);
        due("34: far away", x.isSteady(Integer.MAX_VALUE, Integer.MAX_VALUE, 0), -2);
        FireSale y = Check.of("asset 20 2;house 0 50 9 1 0 3;house 0 50 9 1 0 3;");
        due("34: calm", y.isSteady(0, 0, 0), 1);
        due("34: greatest", y.isSteady(6000, 0, 3), 1);
        due("34: only fallen differ", y.isSteady(6000, 0, 1), 0);
        due("34: only sold differ", y.isSteady(5000, 0, 3), 0);
    }

    private static void promises35To39() {
        FireSale x = Check.of(SPIRAL + "asset 3 0;");
        x.hold(1, 1, 7);
        x.lay(1, 1, 1, 3);
        // of ASSET 1 the PRICE in CALM is 0: RATIO 1
        float index = (11f / 20f * 9f + 1f * 7f) / 16f;
        due("35: least", x.index(1), Float.floatToIntBits(index));
        due("35: calm", x.index(0), Float.floatToIntBits(1f));
        due("35: which 4", x.index(4), -1);
        due("35: which -1", x.index(-1), -1);
        due("36: least", x.drop(1), (int) ((1f - index) * 1000f));
        due("36: is 253", x.drop(1), 253);
        due("36: calm", x.drop(0), 0);
        due("36: which 4", x.drop(4), -1);
        due("37: least", x.ratio(1, 0), Float.floatToIntBits(11f / 20f));
        due("37: of price 0", x.ratio(1, 1), Float.floatToIntBits(1f));
        due("37: no such", x.ratio(1, 2), -1);
        due("37: no such", x.ratio(1, -1), -1);
        due("37: no such", x.ratio(4, 0), -1);
        float first = (18f / 20f * 9f + 1f * 7f) / 16f;
        float second = (15f / 20f * 9f + 1f * 7f) / 16f;
        double mood = 1.0 / 2 + (double) first / 2;
        mood = mood / 2 + (double) second / 2;
        mood = mood / 2 + (double) index / 2;
        due("38: mood", x.mood(), Double.doubleToLongBits(mood));
        due("39: hundredths", x.hundredths(), (int) (mood * 100));
        due("39: is 83", x.hundredths(), 83);
        // all prices fall to 0: RATIO 0, and MOOD is halved
        x = Check.of("asset 9 9;house 0 99 0 1 0 3;");
        due("37: 0", x.ratio(1, 0), 0);
        due("35: 0", x.index(1), 0);
        due("36: 1000", x.drop(1), 1000);
        due("38: half", x.mood(), Double.doubleToLongBits(0.5));
        due("39: 50", x.hundredths(), 50);
        x = Check.of("asset 9 1;");
        due("35: nothing held", x.index(3), Float.floatToIntBits(1f));
        due("38: no rounds", x.mood(), Double.doubleToLongBits(1.0));
        due("39: 100", x.hundredths(), 100);
        // many assets: the order of the sums shows in the last bits
        x = Check.of("asset 7 1;asset 11 1;asset 13 1;asset 17 1;house 0 9999 0 1 0 1 3 5 7;");
        float sum = 6f / 7f * 1f;
        sum = sum + 8f / 11f * 3f;
        sum = sum + 8f / 13f * 5f;
        sum = sum + 10f / 17f * 7f;
        due("35: in order", x.index(1), Float.floatToIntBits(sum / 16f));
    }

    public static void main(String[] args) {
        promises18To20();
        promises21And22();
        promises23And24();
        promises25To27();
        promises28To32();
        promises33And34();
        promises35To39();
        Check.end();
    }
}
