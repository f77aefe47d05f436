/** What is asked: promises 18 to 22, 55 and 56. */
final class AskedSentences {
    private static final String ASSET = "asset 1 0;";
    private static final String HOUSE = "house 0 0 0 1 0;";

    private AskedSentences() {
    }

    static void all() {
        of();
        holding();
        owes();
        ofAsset();
        shelf();
        spell();
        spellEnds();
        count();
        everyCall();
    }

    private static void of() {
        Doc.says(18, "Of a HOUSE: 0 CASH, 1 DEBT, 2 FLOOR, 3 STEP, 4 WAY, 5 all pieces, 6 all "
                + "LOANS from it, 7 to it.");
        String world = "asset 10 1;asset 9 2;house 11 12 13 14 1 15 16;" + HOUSE + HOUSE
                + "loan 0 1 5;loan 0 2 6;loan 1 0 7;loan 2 0 8;loan 1 2 1;";
        Doc.answers(world, "of 0 0 = 11", "of 0 1 = 12", "of 0 2 = 13", "of 0 3 = 14", "of 0 4 = 1",
                "of 0 5 = 31", "of 0 6 = 11", "of 0 7 = 15", "of 2 6 = 8", "of 2 7 = 7");
        Doc.answers(HOUSE, "of 0 0 = 0", "of 0 1 = 0", "of 0 2 = 0", "of 0 3 = 1", "of 0 4 = 0",
                "of 0 5 = 0", "of 0 6 = 0", "of 0 7 = 0");
        StringBuilder full = new StringBuilder(ASSET.repeat(4)).append(HOUSE.repeat(5))
                .append("house 9999 9999 9999 99 1 60 60 60 60;");
        for (int i = 0; i < 5; i++) {
            full.append("loan 5 ").append(i).append(" 999;loan ").append(i).append(" 5 998;");
        }
        Doc.answers(full.toString(), "of 5 0 = 9999", "of 5 1 = 9999", "of 5 2 = 9999",
                "of 5 3 = 99", "of 5 4 = 1", "of 5 5 = 240", "of 5 6 = 4995", "of 5 7 = 4990");
        Doc.says(18, "NONE for others.");
        Doc.none(world, "of -1 0", "of 3 0", "of 6 0", "of MIN 0", "of MAX 0", "of 0 -1", "of 0 8",
                "of 0 MIN", "of 0 MAX", "of 3 8");
        Doc.none("", "of 0 0", "of 0 5", "of 0 7");
    }

    private static void holding() {
        Doc.says(19, "A HOLDING.");
        String world = "asset 10 1;asset 9 2;house 0 0 0 1 0 60 0;house 0 0 0 1 0 3 4;";
        Doc.answers(world, "holding 0 0 = 60", "holding 0 1 = 0", "holding 1 0 = 3",
                "holding 1 1 = 4");
        Doc.says(19, "NONE: no such ones.");
        Doc.none(world, "holding -1 0", "holding 2 0", "holding 6 0", "holding MIN 0",
                "holding MAX 0", "holding 0 -1", "holding 0 2", "holding 0 4", "holding 0 MIN",
                "holding 0 MAX");
        Doc.none(ASSET, "holding 0 0");
        Doc.none(HOUSE, "holding 0 0");
    }

    private static void owes() {
        Doc.says(20, "A LOAN from one HOUSE to another (both one: 0).");
        String world = HOUSE.repeat(3) + "loan 0 1 999;loan 1 0 7;";
        Doc.answers(world, "owes 0 1 = 999", "owes 1 0 = 7", "owes 0 2 = 0", "owes 2 1 = 0",
                "owes 0 0 = 0", "owes 1 1 = 0", "owes 2 2 = 0");
        Doc.says(20, "NONE: no such ones.");
        Doc.none(world, "owes -1 0", "owes 3 0", "owes 6 0", "owes 0 -1", "owes 0 3", "owes 0 6",
                "owes 3 3", "owes -1 -1", "owes MIN 0", "owes MAX 0", "owes 0 MIN", "owes 0 MAX",
                "owes MIN MIN", "owes MAX MAX");
        Doc.none("", "owes 0 0");
    }

    private static void ofAsset() {
        Doc.says(21, "Of an ASSET: 0 BASE, 1 SLOPE, 2 HELD, 3 its CAP (360 without), 4 SHOCKS "
                + "together.");
        String world = "asset 10 1;asset 9 2;house 0 0 0 1 0 15 16;house 0 0 0 1 0 3;cap 0 9;"
                + "cap 1 8;cap 0 7;shock 0 3;shock 0 4;shock 1 1;|lay 2 0 0 8|lay 2 1 1 2"
                + "|lay 2 0 1 6";
        Doc.answers(world, "ofAsset 0 0 = 10", "ofAsset 0 1 = 1", "ofAsset 0 2 = 18",
                "ofAsset 0 3 = 7", "ofAsset 0 4 = 7");
        Doc.answers(world, "ofAsset 1 0 = 9", "ofAsset 1 1 = 2", "ofAsset 1 2 = 16",
                "ofAsset 1 3 = 6", "ofAsset 1 4 = 3");
        Doc.answers("asset 200 9;", "ofAsset 0 0 = 200", "ofAsset 0 1 = 9", "ofAsset 0 2 = 0",
                "ofAsset 0 3 = 360", "ofAsset 0 4 = 0");
        Doc.answers(ASSET + ASSET + "cap 1 5;shock 1 5;", "ofAsset 0 3 = 360", "ofAsset 0 4 = 0");
        Doc.answers(ASSET + "cap 0 360;", "ofAsset 0 3 = 360");
        Doc.answers(ASSET + "cap 0 360;cap 0 0;cap 0 1;", "ofAsset 0 3 = 0");
        Doc.answers(ASSET + "shock 0 200;".repeat(4)
                + "|lay 2 1 0 200|lay 2 1 0 200|lay 2 1 0 200|lay 2 1 0 200", "ofAsset 0 4 = 1600");
        Doc.answers(ASSET + "cap 0 5;shock 0 5;|lift 0 0|lift 1 0", "ofAsset 0 3 = 360",
                "ofAsset 0 4 = 0");
        Doc.says(21, "NONE for others.");
        Doc.none(world, "ofAsset -1 0", "ofAsset 2 0", "ofAsset 4 0", "ofAsset MIN 0",
                "ofAsset MAX 0", "ofAsset 0 -1", "ofAsset 0 5", "ofAsset 0 MIN", "ofAsset 0 MAX",
                "ofAsset 2 3");
        Doc.none("", "ofAsset 0 0", "ofAsset 0 3");
    }

    private static void shelf() {
        Doc.says(22, "What lies at a place of a SHELF: 0 its kind (0 CAP, 1 SHOCK), 1 its ASSET, 2 "
                + "how much.");
        String world = ASSET + ASSET + "cap 1 360;shock 1 200;|lay 2 1 1 7|lay 2 0 0 8|lay 2 1 0 0"
                + "|lay 2 0 1 9";
        Doc.answers(world, "shelf 0 0 0 = 0", "shelf 0 0 1 = 1", "shelf 0 0 2 = 360",
                "shelf 1 0 0 = 1", "shelf 1 0 1 = 1", "shelf 1 0 2 = 200");
        Doc.answers(world, "shelf 2 0 0 = 1", "shelf 2 0 1 = 1", "shelf 2 0 2 = 7",
                "shelf 2 1 0 = 0", "shelf 2 1 1 = 0", "shelf 2 1 2 = 8", "shelf 2 2 2 = 0",
                "shelf 2 3 0 = 0", "shelf 2 3 1 = 1", "shelf 2 3 2 = 9");
        Doc.says(22, "NONE: no such ones.");
        Doc.none(world, "shelf -1 0 0", "shelf 3 0 0", "shelf MIN 0 0", "shelf MAX 0 0",
                "shelf 0 -1 0", "shelf 0 1 0", "shelf 1 1 0", "shelf 2 4 0", "shelf 0 MIN 0",
                "shelf 0 MAX 0", "shelf 0 0 -1", "shelf 0 0 3", "shelf 0 0 MIN", "shelf 0 0 MAX");
        Doc.none(ASSET + "cap 0 5;cap 0 6;|lift 0 0", "shelf 0 1 0", "shelf 0 1 2");
    }

    private static void spell() {
        Doc.says(55, "ASSETS, HOUSES (all five, HOLDINGS of all ASSETS), LOANS (by the first "
                + "HOUSE, then the second; those that are not 0), CAPS and SHOCKS of SHELF 0, 1 "
                + "(in order) as a TEXT, in this order, one blank between WORDS and N, none else, "
                + "no line ends (SHELF 2 is not told):");
        String[] texts = {"", "asset 200 9;", "house 0 0 0 1 0;", "house 9999 0 10 99 1;",
            "asset 1 0;house 100 1000 9 10 0 0;", "asset 1 0;cap 0 0;cap 0 360;",
            "asset 1 0;shock 0 200;shock 0 0;", HOUSE + HOUSE + "loan 0 1 1;loan 1 0 999;",
            "asset 200 9;asset 1 0;house 9999 0 7 99 1 60 0;house 0 10 100 1 0 0 1;loan 0 1 999;"
            + "loan 1 0 5;cap 1 360;cap 0 0;shock 0 200;shock 1 3;"};
        for (String text : texts) {
            Doc.dueText("spelt", spelt(Thing.of(text)), text);
        }
        Doc.dueText("an ASSET told later", spelt(Thing.of("house 1 2 3 4 0;asset 5 6;")),
                "asset 5 6;house 1 2 3 4 0 0;");
        Doc.dueText("LOANS told by turns", spelt(Thing.of(HOUSE.repeat(3) + "loan 2 1 9;loan 0 2 8;"
                + "loan 1 0 7;loan 0 1 6;loan 2 0 5;loan 1 2 4;")), HOUSE.repeat(3)
                + "loan 0 1 6;loan 0 2 8;loan 1 0 7;loan 1 2 4;loan 2 0 5;loan 2 1 9;");
        Doc.dueText("blanks, line ends, 0s ahead",
                spelt(Thing.of("asset  0010\n09 ;\n\nhouse 0000 00 0 0001 0 \n0060 ; ")),
                "asset 10 9;house 0 0 0 1 0 60;");
        Doc.dueText("SHELF 2 is not told",
                spelt(Thing.of(ASSET + "cap 0 5;|lay 2 0 0 6|lay 2 1 0 7")), ASSET + "cap 0 5;");
        Doc.dueText("it goes with what was lifted",
                spelt(Thing.of(ASSET + "cap 0 5;cap 0 6;|lift 0 0")), ASSET + "cap 0 6;");
    }

    private static String spelt(Thing t) {
        StringBuilder all = new StringBuilder();
        long length = t.call("spell -1");
        for (int i = 0; i < length; i++) {
            all.append((char) t.call("spell " + i));
        }
        Doc.due("behind the last byte", t.call("spell " + length), -2);
        return all.toString();
    }

    private static void spellEnds() {
        Doc.says(55, "i NONE how many bytes, 0 on: the i-th; -2: there are not so many.");
        Doc.answers("", "spell -1 = 0", "spell 0 = -2", "spell 1 = -2");
        Doc.answers("asset 7 3;", "spell -1 = 10", "spell 0 = 97", "spell 9 = 59", "spell 10 = -2",
                "spell 11 = -2", "spell MAX = -2");
        Doc.says(55, "NONE: i below NONE.");
        Doc.none("", "spell -2", "spell MIN");
        Doc.none("asset 7 3;", "spell -2", "spell -3", "spell MIN");
        // the longest of all TEXTS goes on the tape, and is spelt whole
        StringBuilder all = new StringBuilder("asset 200 9;".repeat(4));
        all.append("house 9999 9999 9999 99 1 60 60 60 60;".repeat(6));
        for (int i = 0; i < 36; i++) {
            all.append(i % 7 == 0 ? "" : "loan " + i / 6 + " " + i % 6 + " 999;");
        }
        all.append("cap 3 360;".repeat(4)).append("shock 3 200;".repeat(4));
        String text = all.toString();
        for (int from = 0; from < text.length(); from += 200) {
            Thing t = Thing.of(text);
            Doc.due("length", t.call("spell -1"), text.length());
            for (int i = from; i < Math.min(from + 200, text.length()); i++) {
                Doc.due("byte " + i, t.call("spell " + i), text.charAt(i));
            }
            Doc.due("behind it", t.call("spell " + text.length()), -2);
        }
    }

    private static void count() {
        Doc.says(56, "0 ASSETS, 1 HOUSES, 2 ACTS that can be undone, 3 bytes of the tape, 4 to 6 "
                + "what lies on SHELF 0 to 2, 7 LOANS that are not 0, 8 HELD of all ASSETS.");
        String world = "asset 200 9;asset 1 0;house 9999 0 7 99 1 60 0;house 0 10 100 1 0 0 1;"
                + HOUSE + "loan 0 1 999;loan 1 0 5;cap 1 360;cap 0 0;cap 0 1;shock 0 200;"
                + "|lay 2 0 0 5|lay 2 1 0 5|feed 0 0 0 0 0|loan 2 0 9|set 0 0 5";
        Doc.answers(world, "count 0 = 2", "count 1 = 3", "count 2 = 4", "count 3 = 20",
                "count 4 = 3", "count 5 = 1", "count 6 = 2", "count 7 = 3", "count 8 = 61");
        StringBuilder loans = new StringBuilder();
        for (int i = 0; i < 36; i++) {
            loans.append(i % 7 == 0 ? "" : "loan " + i / 6 + " " + i % 6 + " 1;");
        }
        String full = ASSET.repeat(4) + "house 0 0 0 1 0 60 60 60 60;".repeat(6) + loans
                + "cap 0 1;";
        Thing t = Thing.of(full);
        Doc.due("all LOANS", t.call("count 7"), 30);
        Doc.due("all HELD", t.call("count 8"), 1440);
        Doc.due("a HOUSE goes", t.call("close 3"), 5);
        Doc.due("its LOANS, too", t.call("count 7"), 20);
        Doc.due("its pieces, too", t.call("count 8"), 1200);
        Doc.says(56, "NONE for others.");
        Doc.none("", "count -1", "count 9", "count 10", "count MIN", "count MAX");
        Doc.none(world, "count -1", "count 9", "count MIN", "count MAX");
    }

    private static void everyCall() {
        Doc.says(Doc.IT, "An object is used for at most 512 calls after it has been made");
        Thing t = new Thing();
        t.call("house 0 0");
        for (int i = 1; i < Thing.MOST_CALLS; i++) {
            Doc.due("call " + i, t.call("set 0 0 " + i), i - 1);
        }
    }
}
