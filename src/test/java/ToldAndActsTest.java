/** Promises 1 to 17, by hand: what is told and what is done. */
public final class ToldAndActsTest {
    private static void due(String call, long got, long want) {
        Check.due(call, got, want);
    }

    private static void text(String text, int want) {
        FireSale x = new FireSale();
        Check.tell(x, text);
        due("text of '" + text + "'", x.text(), want);
        due("tape behind '" + text + "'", x.count(3), 0);
    }

    private static void promise1() {
        FireSale x = new FireSale();
        for (int what = 0; what <= 8; what++) {
            due("1: count " + what, x.count(what), 0);
        }
        due("1: undo", x.undo(), -1);
        due("1: NONE", FireSale.NONE, -1);
    }

    private static void promise2() {
        FireSale x = new FireSale();
        for (int i = 1; i <= 40; i++) {
            due("2: feed " + i, x.feed(0x68_6f_75_73, 0x65203120, 0x32203320, 0x39392031, 0x3b202020),
                    20 * i);
        }
        due("2: feed a full tape", x.feed(1, 2, 3, 4, 5), -1);
        due("2: it has no more", x.count(3), 800);
        due("2: back", x.back(19), 781);
        due("2: feed would be 801", x.feed(1, 2, 3, 4, 5), -1);
        due("2: back", x.back(1), 780);
        due("2: feed to 800", x.feed(1, 2, 3, 4, 5), 800);
        // the highest byte of a is the first one, and bytes above 127 are no letters
        FireSale y = new FireSale();
        y.feed(0x20202080, 0, 0, 0, 0);
        due("2: the fourth byte", y.text(), -7);
        y.feed(0x20202020, 0x20202020, 0x20202020, 0x20202020, 0x202020ff);
        due("2: the last byte", y.text(), -23);
    }

    private static void promise3() {
        FireSale x = new FireSale();
        due("3: back 0 of none", x.back(0), 0);
        due("3: back 1 of none", x.back(1), -1);
        x.feed(0, 0, 0, 0, 0);
        due("3: back -1", x.back(-1), -1);
        due("3: back 21", x.back(21), -1);
        due("3: back least", x.back(Integer.MIN_VALUE), -1);
        due("3: back 5", x.back(5), 15);
        due("3: back 15", x.back(15), 0);
    }

    private static void promise4Whole() {
        text("", 0);
        text(" \n ", 0);
        text("asset 10 1;house 1 2 3 4 1 5;", 1);
        text("asset\n10\n1\n;\nhouse 1 2 3 4 1 ;house 0 0 0 1 0;loan 1 0 999 ; ", 2);
        text("asset 0200 0009;house 9999 9999 9999 0099 0001 0060;", 1);
        text("asset 1 0;cap 0 360;cap 0 0;cap 0 1;cap 0 2;shock 0 200;shock 0 0;", 0);
        FireSale x = Check.of("asset 10 1;asset 7 2;house 1 2 3 4 1 5;house 0 0 0 1 0;loan 0 1 4;"
                + "loan 0 1 3;cap 1 9;cap 0 8;shock 1 7;");
        Check.dueText("4: spelt", Check.spelt(x), "asset 10 1;asset 7 2;house 1 2 3 4 1 5 0;"
                + "house 0 0 0 1 0 0 0;loan 0 1 3;cap 1 9;cap 0 8;shock 1 7;");
        x.lay(2, 0, 0, 5);
        Check.tell(x, "house 0 0 0 1 0;loan");
        due("4: a fault leaves all", x.text(), -24);
        due("4: houses stay", x.count(1), 2);
        due("4: acts stay", x.count(2), 1);
        due("4: tape goes", x.count(3), 0);
        Check.tell(x, "house 0 0 0 1 0;");
        due("4: all anew", x.text(), 1);
        for (int what = 0; what <= 8; what++) {
            due("4: anew, count " + what, x.count(what), what == 1 ? 1 : 0);
        }
    }

    private static void promise4Faults() {
        text(";", -4);
        text("  x", -6);
        text("assets 1 1;", -4);
        text("asse", -4);
        text("assetz 1 1;", -4);
        text("bsset 1 1;", -4);
        text("asset 1 1;dap 0 1;", -14);
        text("asset 1 1;cap 0 1;cat 0 1;", -22);
        text("Asset 1 1;", -4);
        text("asset", -9);
        text("asset  ", -11);
        text("asset1 1;", -9);
        text("asset\t1 1;", -9);
        text("asset X", -10);
        text("asset 0 1;", -10);
        text("asset 201 1;", -10);
        text("asset 00001 1;", -10);
        text("asset 1 10;", -12);
        text("asset 1 1", -13);
        text("asset 1 1 1;", -14);
        text("asset 1 1asset", -13);
        text("asset 1 house", -12);
        text("asset 1 1;;", -14);
        text("asset 1 1;cap 0 1;cap 0 1;cap 0 1;cap 0 1;cap", -46);
        text("asset 1 1;shock 0 1;shock 0 1;shock 0 1;shock 0 1;shock 0 1;", -54);
        text("asset 1 1;asset 1 1;asset 1 1;asset 1 1;asset ", -44);
        text("cap 0 1;", -8);
        text("asset 1 1;cap 1 1;", -18);
        text("asset 1 1;cap 0 361;", -20);
        text("asset 1 1;shock 0 201;", -22);
        text("house 10000 0 0 1 0;", -10);
        text("house 0 0 0 0 0;", -16);
        text("house 0 0 0 100 0;", -16);
        text("house 0 0 0 1 2;", -18);
        text("house 0 0 0 1 0 0;", -20);
        text("asset 1 1;house 0 0 0 1 0 61;", -30);
        text("asset 1 1;house 0 0 0 1 0 60 0;", -33);
        text("house 0 0 0 1 0;loan 0 0 0;", -27);
        text("house 0 0 0 1 0;loan 0 1 0;", -27);
        text("house 0 0 0 1 0;loan 1 0 0;", -25);
        text("house 0 0 0 1 0;house 0 0 0 1 0;loan 0 1 1000;", -45);
        String house = "house 0 0 0 1 0;";
        text(house.repeat(6), 6);
        text(house.repeat(7), -100);
        text(house.repeat(6) + "hous", -100);
    }

    private static void promises5To7() {
        FireSale x = new FireSale();
        due("5: base 0", x.asset(0, 0), -1);
        due("5: base 201", x.asset(201, 0), -1);
        due("5: slope -1", x.asset(1, -1), -1);
        due("5: slope 10", x.asset(1, 10), -1);
        due("5: no act", x.count(2), 0);
        due("5: least", x.asset(1, 0), 0);
        due("5: most", x.asset(200, 9), 1);
        due("5: third", x.asset(5, 5), 2);
        due("5: fourth", x.asset(5, 5), 3);
        due("5: fifth", x.asset(5, 5), -1);
        due("6: cash -1", x.house(-1, 0), -1);
        due("6: cash 10000", x.house(10000, 0), -1);
        due("6: debt -1", x.house(0, -1), -1);
        due("6: debt 10000", x.house(0, 10000), -1);
        for (int i = 0; i < 6; i++) {
            due("6: house", x.house(9999 - i, i), i);
        }
        due("6: seventh", x.house(0, 0), -1);
        for (int what = 0; what < 8; what++) {
            due("6: of 2 " + what, x.of(2, what), new int[] {9997, 2, 0, 1, 0, 0, 0, 0}[what]);
        }
        int[] most = {9999, 9999, 9999, 99, 1};
        int[] was = {9997, 2, 0, 1, 0};
        for (int what = 0; what < 5; what++) {
            due("7: below", x.set(2, what, what == 3 ? 0 : -1), -1);
            due("7: above", x.set(2, what, most[what] + 1), -1);
            due("7: as it is", x.set(2, what, was[what]), -1);
            due("7: set", x.set(2, what, most[what]), was[what]);
            due("7: told", x.of(2, what), most[what]);
            due("7: others", x.of(3, what), what == 0 ? 9996 : what == 1 ? 3 : what == 3 ? 1 : 0);
        }
        Check.tell(x, "asset 9 1;house 1 2 3 4 1 5;house 1 2 3 4 1 5;loan 0 1 6;");
        due("6: told anew", x.text(), 2);
        Check.tell(x, "asset 9 1;house 7 7 7 7 1 7;");
        due("6: and again", x.text(), 1);
        due("6: a house comes", x.house(8, 9), 1);
        Check.dueText("6: with nothing of one that was told before", Check.spelt(x),
                "asset 9 1;house 7 7 7 7 1 7;house 8 9 0 1 0 0;");
        x.house(8, 9);
        due("7: what 5", x.set(2, 5, 1), -1);
        due("7: what -1", x.set(2, -1, 1), -1);
        due("7: house 6", x.set(6, 0, 1), -1);
        due("7: house -1", x.set(-1, 0, 1), -1);
    }

    private static void promises8To10() {
        FireSale x = Check.of("asset 10 1;asset 9 2;house 0 0 0 1 0 3 4;house 0 0 0 1 0;");
        due("8: 61", x.hold(0, 0, 61), -1);
        due("8: -1", x.hold(0, 0, -1), -1);
        due("8: as it is", x.hold(0, 0, 3), -1);
        due("8: house 2", x.hold(2, 0, 1), -1);
        due("8: asset 2", x.hold(0, 2, 1), -1);
        due("8: 60", x.hold(0, 0, 60), 3);
        due("8: 0", x.hold(0, 1, 0), 4);
        due("8: told", x.holding(0, 0) * 100 + x.holding(0, 1), 6000);
        due("9: both one", x.loan(1, 1, 5), -1);
        due("9: -1", x.loan(0, 1, -1), -1);
        due("9: 1000", x.loan(0, 1, 1000), -1);
        due("9: as it is", x.loan(0, 1, 0), -1);
        due("9: no house", x.loan(0, 2, 5), -1);
        due("9: no house", x.loan(-1, 1, 5), -1);
        due("9: 999", x.loan(0, 1, 999), 0);
        due("9: again", x.loan(0, 1, 7), 999);
        due("9: one way", x.owes(1, 0), 0);
        due("9: none again", x.loan(0, 1, 0), 7);
        due("10: base 0", x.curve(0, 0, 0), -1);
        due("10: base 201", x.curve(0, 0, 201), -1);
        due("10: slope 10", x.curve(0, 1, 10), -1);
        due("10: slope -1", x.curve(0, 1, -1), -1);
        due("10: what 2", x.curve(0, 2, 1), -1);
        due("10: what -1", x.curve(1, -1, 1), -1);
        due("10: asset 2", x.curve(2, 0, 1), -1);
        due("10: as it is", x.curve(1, 1, 2), -1);
        due("10: base", x.curve(1, 0, 200), 9);
        due("10: slope", x.curve(1, 1, 0), 2);
        due("10: told", x.ofAsset(1, 0) * 10 + x.ofAsset(1, 1), 2000);
        due("8 to 10: acts", x.count(2), 7);
    }

    private static void promises11And12() {
        FireSale x = Check.of("asset 10 1;asset 9 2;");
        due("11: shelf 3", x.lay(3, 0, 0, 5), -1);
        due("11: shelf -1", x.lay(-1, 0, 0, 5), -1);
        due("11: kind 2", x.lay(0, 2, 0, 5), -1);
        due("11: kind -1", x.lay(2, -1, 0, 5), -1);
        due("11: asset 2", x.lay(0, 0, 2, 5), -1);
        due("11: cap 361", x.lay(0, 0, 0, 361), -1);
        due("11: shock 201", x.lay(1, 1, 0, 201), -1);
        due("11: out of bounds ahead of -2", x.lay(0, 1, 0, 201), -1);
        due("11: a cap may be 360", x.lay(0, 0, 0, 360), 0);
        due("11: a shock may be 200", x.lay(1, 1, 0, 200), 0);
        due("11: shock on shelf 0", x.lay(0, 1, 0, 1), -2);
        due("11: cap on shelf 1", x.lay(1, 0, 0, 1), -2);
        for (int i = 0; i < 4; i++) {
            due("11: shelf 2", x.lay(2, i % 2, i / 2, i), i);
            due("11: shelf 1", x.lay(1, 1, 1, 40 + i), i < 3 ? i + 1 : -3);
        }
        due("11: full", x.lay(2, 0, 0, 1), -3);
        due("11: NONE ahead of -3", x.lay(2, 0, 0, -1), -1);
        due("11: -2 ahead of -3", x.lay(1, 0, 0, 1), -2);
        due("12: shelf 3", x.lift(3, 0), -1);
        due("12: place 4", x.lift(2, 4), -1);
        due("12: place -1", x.lift(2, -1), -1);
        due("12: no such place", x.lift(0, 1), -1);
        due("12: lift", x.lift(2, 1), 3);
        for (int what = 0; what < 3; what++) {
            due("12: moved up 1", x.shelf(2, 1, what), new int[] {0, 1, 2}[what]);
            due("12: moved up 2", x.shelf(2, 2, what), new int[] {1, 1, 3}[what]);
            due("12: gone", x.shelf(2, 3, what), -1);
        }
        due("12: the last one", x.lift(0, 0), 0);
        due("12: none", x.lift(0, 0), -1);
        due("12: shelf 1 is as it was", x.shelf(1, 3, 2), 42);
    }

    private static void promises13To15() {
        String text = "asset 10 1;house 9000 5 9998 4 1 40;house 1000 6 2 9 0 30;"
                + "house 3 3 3 3 0 3;house 4 4 4 4 1 4;loan 0 1 30;loan 1 0 40;loan 0 2 600;"
                + "loan 1 2 500;loan 2 1 7;loan 2 3 8;loan 3 2 9;loan 3 0 1;";
        FireSale x = Check.of(text);
        due("13: one of them 0", x.net(0, 3), -1);
        due("13: both one", x.net(1, 1), -1);
        due("13: no such", x.net(1, 4), -1);
        due("13: net", x.net(0, 1), 30);
        due("13: there", x.owes(0, 1), 0);
        due("13: back", x.owes(1, 0), 10);
        due("13: both equal or less", x.net(3, 2), 8);
        due("13: left", x.owes(3, 2) * 10 + x.owes(2, 3), 10);
        x = Check.of(text);
        due("14: both one", x.merge(2, 2), -1);
        due("14: no such", x.merge(2, 4), -1);
        due("14: merge", x.merge(0, 1), 0);
        Check.dueText("14", Check.spelt(x), "asset 10 1;house 9999 11 9999 4 1 60;"
                + "house 3 3 3 3 0 3;house 4 4 4 4 1 4;"
                + "loan 0 1 999;loan 1 0 7;loan 1 2 8;loan 2 0 1;loan 2 1 9;");
        x = Check.of(text);
        due("14: into a later one", x.merge(3, 0), 2);
        Check.dueText("14", Check.spelt(x), "asset 10 1;house 1000 6 2 9 0 30;house 3 3 3 3 0 3;"
                + "house 9004 9 9999 4 1 44;loan 0 1 500;loan 0 2 40;loan 1 0 7;loan 1 2 8;"
                + "loan 2 0 30;loan 2 1 609;");
        x = Check.of(text);
        due("15: no such", x.close(4), -1);
        due("15: no such", x.close(-1), -1);
        due("15: close", x.close(1), 3);
        Check.dueText("15", Check.spelt(x), "asset 10 1;house 9000 5 9998 4 1 40;"
                + "house 3 3 3 3 0 3;house 4 4 4 4 1 4;loan 0 1 600;loan 1 2 8;loan 2 0 1;"
                + "loan 2 1 9;");
        due("15: a house comes with nothing of the one that went", x.house(1, 2), 3);
        due("15: holds", x.of(3, 5), 0);
        due("15: owes", x.of(3, 6) + x.of(3, 7), 0);
        due("15: step", x.of(3, 3), 1);
        due("15: way", x.of(3, 4), 0);
    }

    private static void promise16() {
        // CALM: house 0 is worth 10, must sell 2, then 5, falls; so does house 1
        FireSale x = Check.of("asset 20 1;house 0 90 12 1 1 5;house 0 70 0 7 0 4;"
                + "house 9990 0 0 1 0;loan 0 2 0;loan 1 2 3;cap 0 7;shock 0 0;");
        due("16: sold", x.state(1, 7), 7);
        due("16: live", x.live(), 7);
        // CAP: house 1 sells but 2; both FALLEN HOUSES are closed, but for STEP and WAY
        Check.dueText("16", Check.spelt(x), "asset 13 1;house 0 0 0 1 1 0;house 0 0 0 7 0 0;"
                + "house 9990 0 0 1 0 0;cap 0 7;shock 0 0;");
        due("16: nothing more", x.live(), -1);
        due("16: one act", x.count(2), 1);
        due("16: undone", x.undo(), 0);
        due("16: as before", x.state(1, 7), 7);
        // not FALLEN: worth 60 of floor 100, so 8 of its pieces by 5, for 10 each less 1 of slope
        x = Check.of("asset 10 0;asset 7 0;house 9960 9999 80 5 1 6 9;");
        due("16: worth", x.worth(1, 0), 9960 - 9999 + 60 + 63);
        due("16: not below its floor", x.live(), -1);
        x.set(0, 2, 120);
        due("16: sells of the last asset", x.mustSell(1, 0, 1), 8);
        due("16: live", x.live(), 8);
        Check.dueText("16: coins, 9999 at most", Check.spelt(x),
                "asset 10 0;asset 7 0;house 9999 9999 120 5 1 6 1;");
        // BASE is 1 at least; FALLEN without pieces is LIVED, too
        x = Check.of("asset 5 9;house 0 6 0 1 0 1;house 0 1 0 1 0;loan 1 0 0;");
        due("16: live", x.live(), 1);
        Check.dueText("16: base", Check.spelt(x), "asset 1 9;house 0 0 0 1 0 0;house 0 0 0 1 0 0;");
        x = Check.of("house 0 1 0 1 0;");
        due("16: fallen, nothing sold", x.live(), 0);
        due("16: closed", x.of(0, 1), 0);
        due("16: not again", x.live(), -1);
    }

    private static void promise17() {
        FireSale x = new FireSale();
        for (int i = 0; i < 3; i++) {
            x.asset(10 + i, i);
        }
        for (int i = 1; i <= 11; i++) {
            x.curve(0, 0, 100 + i);
        }
        due("17: twelve at most", x.count(2), 12);
        due("17: undo", x.undo(), 11);
        due("17: base", x.ofAsset(0, 0), 110);
        for (int i = 10; i >= 0; i--) {
            due("17: undo", x.undo(), i);
        }
        due("17: base", x.ofAsset(0, 0), 10);
        due("17: two assets", x.count(0), 2);
        due("17: none can", x.undo(), -1);
        due("17: an act again", x.curve(1, 1, 5), 1);
        due("17: undo", x.undo(), 0);
        due("17: slope", x.ofAsset(1, 1), 1);
        // what does not happen is no act; each kind of act is one
        x = Check.of("asset 10 1;house 5 0 0 1 0 3;house 5 90 9 1 0 3;loan 0 1 3;loan 1 0 4;");
        String was = Check.spelt(x);
        for (int act = 0; act < 12; act++) {
            due("17: act " + act, act(x, act) >= 0 ? 1 : 0, 1);
            due("17: one more", x.count(2), 1);
            due("17: undone", x.undo(), 0);
            Check.dueText("17: as before " + act, Check.spelt(x), was);
            due("17: shelf as before", x.count(6), 0);
        }
        x.asset(9, 9);
        Check.tell(x, "house 1 1 1 1 1;");
        due("17: text forgets", x.text() * 10 + x.count(2), 10);
        due("17: none can", x.undo(), -1);
    }

    private static int act(FireSale x, int act) {
        switch (act) {
            case 0:
                return x.asset(1, 1);
            case 1:
                return x.house(1, 1);
            case 2:
                return x.set(1, 2, 3);
            case 3:
                return x.hold(1, 0, 9);
            case 4:
                return x.loan(1, 0, 9);
            case 5:
                return x.curve(0, 1, 9);
            case 6:
                return x.lay(2, 1, 0, 9);
            case 7:
                x.lay(0, 0, 0, 7);
                x.lay(0, 0, 0, 8);
                return liftAndLeave(x);
            case 8:
                return x.net(0, 1);
            case 9:
                return x.merge(1, 0);
            case 10:
                return x.close(0);
            default:
                return x.live();
        }
    }

    private static int liftAndLeave(FireSale x) {
        due("17: lift", x.lift(0, 0), 1);
        due("17: undo lift", x.undo(), 2);
        due("17: back at its place", x.shelf(0, 0, 2), 7);
        return x.undo();
    }

    public static void main(String[] args) {
        promise1();
        promise2();
        promise3();
        promise4Whole();
        promise4Faults();
        promises5To7();
        promises8To10();
        promises11And12();
        promises13To15();
        promise16();
        promise17();
        Check.end();
    }
}
