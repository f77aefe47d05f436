/** What were: promises 40 to 54, and the terms of WITH, GIFTS and WERE. */
final class WereSentences {
    private static final String ASSET = "asset 1 0;";
    private static final String HOUSE = "house 0 0 0 1 0;";
    private static final String SPIRAL = StateSentences.SPIRAL;
    private static final String TWO = StateSentences.TWO;

    /** House 0 owes 1 ten, 1 owes 2 four: each is worth a little as long as those ahead stand. */
    private static final String CHAIN = "house 10 0 0 1 0;house 0 5 0 1 0;house 0 3 0 1 0;"
            + "loan 0 1 10;loan 1 2 4;";

    private WereSentences() {
    }

    static void all() {
        were();
        noneOrTwo();
        with();
        rescue();
        helper();
        coinsFor();
        gifts();
        aid();
        bestAidTerm();
        bestAid();
        buyer();
        capFor();
        shockFor();
        domino();
        keystone();
        pulls();
        room();
        stress();
        fewest();
        doubtful();
    }

    private static void were() {
        Doc.says(Doc.TERMS, "WERE: things are as they are but for what is told; nothing happens.");
        Thing t = Thing.of(SPIRAL + "cap 0 100;|set 0 2 13|set 0 2 12");
        String was = t.whole();
        for (String call : new String[] {"rescue 0 5 5", "helper 5 1", "coinsFor 0", "aid 3 5 -1",
            "bestAid 3 5 0", "buyer 0 5 5", "capFor 0", "shockFor 0", "domino 0 4", "keystone",
            "pulls 0", "room 0", "stress 50 5", "fewest", "doubtful"}) {
            t.call(call);
            Doc.due("LOST behind " + call, t.call("state 1 5"), 81);
            Doc.due("PANIC behind " + call, t.call("state 3 5"), 81);
        }
        Doc.dueText("things", t.whole(), was);
    }

    private static void noneOrTwo() {
        Doc.says(Doc.TERMS, "Where NONE and -2 could both be told, it is NONE, if it is not told "
                + "otherwise.");
        Doc.none("", "coinsFor 0", "capFor 0", "shockFor 0", "room 0", "fellIn 0", "helper -1 0",
                "helper 10000 1", "helper 5 2", "aid 7 5 -1", "aid 1 0 -1", "aid 1 5 0",
                "bestAid 5 5 -1", "bestAid 1 1000 -1", "bestAid 1 5 0", "next -1 0 0 8",
                "next 0 0 1 0", "spell -2");
        Doc.none(SPIRAL, "coinsFor 2", "capFor 1", "shockFor 1", "room 2");
    }

    private static void with() {
        Doc.says(Doc.TERMS, "WITH one FALLEN: as above, but that HOUSE counts as FALLEN in each "
                + "STATE (in CALM, too; it MUST SELL by its WORTH as ever).");
        // it sells nothing: its WORTH is 32; house 1 lacks the coin that it is owed, and falls
        String world = "asset 9 1;house 5 0 0 1 0 3;house 5 15 0 1 0 1;loan 0 1 1;";
        Doc.answers(world, "domino 0 4 = 3", "domino 0 7 = 1", "domino 0 0 = 1", "domino 0 5 = 4",
                "domino 1 4 = 2", "domino 1 7 = 0", "state 1 4 = 0");
        // by its WORTH it must sell, but not all
        Doc.answers("asset 10 0;house 0 0 32 1 0 3;" + HOUSE, "domino 0 7 = 2", "domino 0 4 = 1",
                "domino 1 7 = 2", "domino 1 4 = 2");
        // what it owes does not come any more, what it is owed does
        Doc.answers(CHAIN, "domino 2 4 = 4", "domino 2 6 = 1");
        Doc.answers("house 1 0 0 1 0;house 0 1 0 1 0;loan 1 0 1;loan 0 1 2;", "state 1 4 = 0",
                "domino 1 4 = 3", "domino 0 4 = 3");
    }

    private static void rescue() {
        Doc.says(40, "Had a HOUSE so many coins more (0 .. 9999; above 9999 together, too): as "
                + "state() tells.");
        Doc.answers(SPIRAL, "rescue 1 10 4 = 1", "rescue 1 9 4 = 3", "rescue 1 10 0 = 5",
                "rescue 1 10 5 = 45", "rescue 1 10 6 = 1", "rescue 1 10 7 = 5", "rescue 0 0 5 = 81",
                "rescue 0 2 5 = 0", "rescue 0 1 5 = 81", "rescue 0 9999 4 = 0");
        String rich = "house 9999 9999 0 1 0;" + HOUSE + HOUSE + "loan 0 1 999;loan 0 2 999;";
        Doc.answers(rich, "rescue 0 0 6 = 1", "rescue 0 1997 6 = 1", "rescue 0 1998 6 = 0",
                "rescue 0 9999 6 = 0");
        Doc.answers("house 0 9999 0 1 0;" + HOUSE + "loan 0 1 999;", "rescue 0 9999 6 = 1");
        Doc.says(40, "NONE: no such ones, out of bounds.");
        Doc.none(SPIRAL, "rescue -1 5 5", "rescue 2 5 5", "rescue 6 5 5", "rescue MIN 5 5",
                "rescue MAX 5 5", "rescue 0 -1 5", "rescue 0 10000 5", "rescue 0 MIN 5",
                "rescue 0 MAX 5", "rescue 0 5 -1", "rescue 0 5 8", "rescue 0 5 1", "rescue 0 5 3",
                "rescue 0 5 MIN", "rescue 0 5 MAX");
        Doc.none("", "rescue 0 5 5");
        Doc.none(HOUSE, "rescue 0 5 0");
    }

    private static void helper() {
        Doc.says(41, "The HOUSE that so many coins (0 .. 9999) would help so that LOST is least, "
                + "of several the first: what 0 it, 1 LOST then;");
        Doc.answers(SPIRAL, "helper 2 0 = 0", "helper 2 1 = 0", "helper 1 0 = 0", "helper 1 1 = 81",
                "helper 0 0 = 0", "helper 0 1 = 81", "helper 9999 0 = 0", "helper 9999 1 = 0");
        String other = "asset 20 1;house 0 70 0 1 0 4;house 0 90 12 1 0 5;";
        Doc.answers(other, "helper 1 0 = 0", "helper 2 0 = 1", "helper 2 1 = 0", "helper 9 0 = 1");
        // the last one of six; of like ones the first
        String six = HOUSE.repeat(5);
        Doc.answers("asset 20 1;" + six + "house 0 21 0 1 0 1;", "helper 1 0 = 5", "helper 1 1 = 0",
                "helper 0 0 = 0", "helper 0 1 = 1");
        // 4 coins to one of three let it stand, as the price is 18 by the other two
        Doc.answers("asset 20 1;" + HOUSE + "house 0 21 0 1 0 1;".repeat(3), "helper 0 1 = 9",
                "helper 4 0 = 1", "helper 4 1 = 6");
        Doc.says(41, "-2: no HOUSES.");
        Doc.answers("", "helper 0 0 = -2", "helper 9999 1 = -2");
        Doc.answers(ASSET, "helper 5 0 = -2");
        Doc.says(41, "NONE: out of bounds, another what.");
        Doc.none(SPIRAL, "helper -1 0", "helper 10000 0", "helper MIN 1", "helper MAX 1",
                "helper 5 -1", "helper 5 2", "helper 5 5", "helper 5 MIN", "helper 5 MAX");
        Doc.none("", "helper -1 0", "helper 10000 0", "helper 5 -1", "helper 5 2");
    }

    private static void coinsFor() {
        Doc.says(42, "The fewest coins (0 .. 9999) to a HOUSE with which none is FALLEN; -2: not "
                + "with 9999.");
        Doc.answers(SPIRAL, "coinsFor 0 = 2", "coinsFor 1 = -2");
        Doc.answers("house 7 7 0 1 0;", "coinsFor 0 = 0");
        Doc.answers("house 0 1 0 1 0;", "coinsFor 0 = 1");
        Doc.answers("house 0 9998 0 1 0;", "coinsFor 0 = 9998");
        Doc.answers("house 0 9999 0 1 0;" + HOUSE, "coinsFor 0 = 9999", "coinsFor 1 = -2");
        Doc.answers("house 0 9999 0 1 0;" + HOUSE + "loan 0 1 1;", "coinsFor 0 = -2");
        Doc.answers("house 9999 9999 0 1 0;" + HOUSE + "loan 0 1 999;", "coinsFor 0 = 999");
        for (int coins : new int[] {2, 3, 63, 64, 65, 4095, 4096, 5000, 8191}) {
            Doc.answers("house 0 " + coins + " 0 1 0;", "coinsFor 0 = " + coins);
        }
        Doc.says(42, "NONE: no such HOUSE.");
        Doc.none(SPIRAL, "coinsFor -1", "coinsFor 2", "coinsFor 6", "coinsFor MIN", "coinsFor MAX");
        Doc.none("", "coinsFor 0");
    }

    /** One gift saves 12 at house 0 or 1; both gifts at house 2 save 36: one by one misses that. */
    private static final String MISSED = "asset 10 1;asset 9 1;asset 9 1;house 0 31 0 1 0 3;"
            + "house 0 28 0 1 0 0 3;house 0 56 0 1 0 0 0 6;";

    private static void gifts() {
        Doc.says(Doc.TERMS, "GIFTS of v coins (CASH so much more, above 9999, too): AID of n "
                + "gifts: one by one, each to the HOUSE by which LOST in LEAST is least then, of "
                + "several the first.");
        Doc.answers(MISSED, "aid 0 1 -1 = 54", "aid 1 1 -1 = 45", "aid 1 1 0 = 1",
                "aid 2 1 -1 = 36", "aid 2 1 0 = 1", "aid 2 1 1 = 1", "aid 2 1 2 = 0",
                "aid 3 1 0 = 2", "aid 4 1 0 = 3", "aid 4 1 -1 = 36", "aid 6 1 2 = 0");
        // house 1 alone is helped by a gift; then nobody is, and the first one gets all
        Doc.answers("asset 10 1;" + HOUSE + "house 0 11 0 1 0 1;", "aid 1 1 0 = 0", "aid 1 1 1 = 1",
                "aid 6 1 0 = 5", "aid 6 1 1 = 1", "aid 6 1 -1 = 0");
        // CASH above 9999; two gifts help but together: the first HOUSE has what does not help
        Doc.answers("asset 10 1;house 9999 9999 0 1 0 1;" + HOUSE + "loan 0 1 999;",
                "aid 1 989 -1 = 0", "aid 1 988 -1 = 1", "aid 2 495 -1 = 0", "aid 2 494 -1 = 1");
        Doc.answers("asset 10 1;" + HOUSE + "house 9999 9999 0 1 0 1;loan 1 0 999;",
                "aid 1 989 -1 = 0", "aid 2 495 -1 = 1", "aid 2 495 0 = 2", "bestAid 2 495 -1 = 0",
                "bestAid 2 495 1 = 2");
    }

    private static void aid() {
        Doc.says(43, "AID of n (0 .. 6) gifts of v (1 .. 999) coins: house NONE: LOST then, else "
                + "how many gifts of these that HOUSE has;");
        Doc.answers(SPIRAL, "aid 0 1 -1 = 81", "aid 0 1 0 = 0", "aid 1 1 -1 = 81", "aid 2 1 -1 = 0",
                "aid 2 1 0 = 2", "aid 2 1 1 = 0", "aid 6 999 -1 = 0", "aid 6 999 0 = 6",
                "aid 6 1 1 = 0", "aid 0 999 -1 = 81", "aid 1 999 0 = 1");
        Doc.says(43, "-2: no HOUSES.");
        Doc.answers("", "aid 0 1 -1 = -2", "aid 6 999 -1 = -2");
        Doc.answers(ASSET, "aid 1 5 -1 = -2");
        Doc.says(43, "NONE: out of bounds, no such HOUSE.");
        Doc.none(SPIRAL, "aid -1 1 -1", "aid 7 1 -1", "aid MIN 1 -1", "aid MAX 1 -1", "aid 1 0 -1",
                "aid 1 1000 -1", "aid 1 -1 0", "aid 1 MIN -1", "aid 1 MAX -1", "aid 1 1 -2",
                "aid 1 1 2", "aid 1 1 6", "aid 1 1 MIN", "aid 1 1 MAX", "aid 0 0 0");
        Doc.none("", "aid 1 1 0", "aid 0 1 5", "aid -1 1 -1", "aid 7 1 -1", "aid 1 0 -1",
                "aid 1 1000 -1", "aid 1 1 -2");
    }

    private static void bestAidTerm() {
        Doc.says(Doc.TERMS, "BEST AID: of all ways to give n gifts that by which LOST in LEAST is "
                + "least, of several the first as a row (gifts of HOUSE 0, 1, ..).");
        Doc.answers(MISSED, "bestAid 0 1 -1 = 54", "bestAid 1 1 -1 = 45", "bestAid 1 1 0 = 0",
                "bestAid 1 1 1 = 1", "bestAid 1 1 2 = 0");
        Doc.answers(MISSED, "bestAid 2 1 -1 = 18", "bestAid 2 1 0 = 0", "bestAid 2 1 1 = 0",
                "bestAid 2 1 2 = 2", "bestAid 3 1 -1 = 9", "bestAid 3 1 1 = 1",
                "bestAid 3 1 2 = 2");
        Doc.answers(MISSED, "bestAid 4 1 -1 = 0", "bestAid 4 1 0 = 1", "bestAid 4 1 1 = 1",
                "bestAid 4 1 2 = 2");
        // of like rows the first: as few as can be for house 0, then for house 1, ..
        Doc.answers(SPIRAL, "bestAid 1 1 0 = 0", "bestAid 1 1 1 = 1", "bestAid 3 1 0 = 2",
                "bestAid 3 1 1 = 1", "bestAid 4 1 0 = 2", "bestAid 4 1 1 = 2");
        Doc.answers(HOUSE.repeat(6), "bestAid 4 1 -1 = 0", "bestAid 4 1 0 = 0", "bestAid 4 1 4 = 0",
                "bestAid 4 1 5 = 4");
        Doc.answers(HOUSE, "bestAid 4 1 0 = 4", "bestAid 0 1 0 = 0");
        // each HOUSE of six is helped by a gift: of like ways the last four HOUSES have them
        Doc.answers("asset 10 1;" + "house 0 11 0 1 0 1;".repeat(6), "bestAid 0 999 -1 = 36",
                "bestAid 4 999 -1 = 12", "bestAid 4 999 0 = 0", "bestAid 4 999 1 = 0",
                "bestAid 4 999 2 = 1", "bestAid 4 999 5 = 1", "aid 4 999 0 = 1", "aid 4 999 3 = 1",
                "aid 4 999 4 = 0");
        // house 0 would need three gifts: the ways tried earlier leave nothing with it
        String three = "asset 10 1;asset 9 1;house 0 33 0 1 0 3;house 0 38 0 1 0 0 4;";
        Doc.answers(three, "bestAid 2 1 -1 = 9", "bestAid 2 1 0 = 0", "bestAid 2 1 1 = 2",
                "bestAid 4 1 -1 = 9");
        // four gifts in each way, of which but one is the best: those at 1, 1, 4 and 5
        String apart = "asset 10 1;asset 10 1;asset 10 1;house 0 1 0 1 0;house 0 22 0 1 0 2;"
                + "house 0 1 0 1 0;house 0 1 0 1 0;house 0 11 0 1 0 0 1;house 0 11 0 1 0 0 0 1;";
        Doc.answers(apart, "bestAid 4 1 -1 = 0", "bestAid 4 1 0 = 0", "bestAid 4 1 1 = 2",
                "bestAid 4 1 2 = 0", "bestAid 4 1 3 = 0", "bestAid 4 1 4 = 1", "bestAid 4 1 5 = 1",
                "bestAid 3 1 -1 = 1");
    }

    private static void bestAid() {
        Doc.says(44, "BEST AID likewise (n 0 .. 4).");
        Doc.answers(SPIRAL, "bestAid 0 1 -1 = 81", "bestAid 0 1 1 = 0", "bestAid 1 1 -1 = 81",
                "bestAid 2 1 -1 = 0", "bestAid 2 1 0 = 2", "bestAid 2 1 1 = 0",
                "bestAid 4 999 -1 = 0", "bestAid 4 999 0 = 1", "bestAid 4 999 1 = 3");
        Doc.answers("", "bestAid 0 1 -1 = -2", "bestAid 4 999 -1 = -2");
        Doc.answers(ASSET, "bestAid 1 5 -1 = -2");
        Doc.none(SPIRAL, "bestAid -1 1 -1", "bestAid 5 1 -1", "bestAid 6 1 -1", "bestAid MIN 1 -1",
                "bestAid MAX 1 -1", "bestAid 1 0 -1", "bestAid 1 1000 -1", "bestAid 1 -1 0",
                "bestAid 1 MIN -1", "bestAid 1 MAX -1", "bestAid 1 1 -2", "bestAid 1 1 2",
                "bestAid 1 1 6", "bestAid 1 1 MIN", "bestAid 1 1 MAX");
        Doc.none("", "bestAid 1 1 0", "bestAid 0 1 5", "bestAid -1 1 -1", "bestAid 5 1 -1",
                "bestAid 1 0 -1", "bestAid 1 1000 -1", "bestAid 1 1 -2");
    }

    private static void buyer() {
        Doc.says(45, "Were a buyer there who takes n (0 .. 360) pieces of an ASSET (so many fewer "
                + "count as SOLD for its PRICE, 0 at least): as state() tells (SOLD as it is; LOST "
                + "by PRICES so).");
        Doc.answers(SPIRAL, "buyer 0 0 5 = 81", "buyer 0 0 4 = 3", "buyer 0 1 5 = 72",
                "buyer 0 1 4 = 3", "buyer 0 1 0 = 9", "buyer 0 2 5 = 0", "buyer 0 2 0 = 2",
                "buyer 0 2 7 = 2", "buyer 0 2 4 = 0", "buyer 0 2 6 = 0", "buyer 0 3 5 = 0",
                "buyer 0 360 5 = 0", "buyer 0 360 0 = 2");
        // for the PRICE of this ASSET alone
        String world = "asset 10 1;asset 10 1;house 0 999 0 1 0 3 4;";
        Doc.answers(world, "buyer 0 2 5 = 19", "buyer 1 2 5 = 17", "buyer 0 3 5 = 16",
                "buyer 0 4 5 = 16", "buyer 1 360 5 = 9", "buyer 1 4 7 = 7");
        Doc.says(45, "NONE: no such ones, out of bounds.");
        Doc.none(SPIRAL, "buyer -1 1 5", "buyer 1 1 5", "buyer 4 1 5", "buyer MIN 1 5",
                "buyer MAX 1 5", "buyer 0 -1 5", "buyer 0 361 5", "buyer 0 MIN 5", "buyer 0 MAX 5",
                "buyer 0 1 -1", "buyer 0 1 8", "buyer 0 1 1", "buyer 0 1 MIN", "buyer 0 1 MAX");
        Doc.none("", "buyer 0 1 5");
    }

    private static void capFor() {
        Doc.says(46, "The greatest CAP (0 .. 360) of an ASSET, besides all others, with which none "
                + "is FALLEN; -2: not with 0.");
        Doc.answers(SPIRAL, "capFor 0 = 2");
        Doc.answers(TWO, "capFor 0 = 360");
        Doc.answers(SPIRAL + "cap 0 2;", "capFor 0 = 360");
        Doc.answers(SPIRAL + "cap 0 3;", "capFor 0 = 2");
        Doc.answers(SPIRAL + "|lay 2 0 0 0", "capFor 0 = 360");
        Doc.answers("asset 9 1;house 0 18 1 1 0 2;", "capFor 0 = 0");
        Doc.answers("asset 9 1;house 0 17 2 1 0 2;", "capFor 0 = 0");
        Doc.answers("asset 9 1;house 0 16 3 1 0 2;", "capFor 0 = 1");
        Doc.answers("asset 9 1;house 0 16 2 1 0 2;", "capFor 0 = 360");
        Doc.answers("asset 9 0;house 0 1 0 1 0;", "capFor 0 = -2");
        Doc.answers("asset 9 0;" + HOUSE, "capFor 0 = 360");
        Doc.answers(ASSET, "capFor 0 = 360");
        // by 39 SOLD the PRICE is 161, with which the last HOUSE is worth 0
        String all = "asset 200 0;asset 200 1;" + "house 0 0 9999 1 0 0 60;".repeat(5)
                + "house 200 9860 9999 1 0 0 60;";
        Doc.answers(all, "capFor 1 = 39", "capFor 0 = -2");
        Doc.says(46, "NONE: no such ASSET.");
        Doc.none(SPIRAL, "capFor -1", "capFor 1", "capFor 4", "capFor MIN", "capFor MAX");
        Doc.none("", "capFor 0");
    }

    private static void shockFor() {
        Doc.says(47, "The greatest SHOCK (0 .. 200) of an ASSET, besides all others, with which "
                + "none is FALLEN; -2: not with 0.");
        Doc.answers(SPIRAL, "shockFor 0 = -2");
        Doc.answers(SPIRAL + "cap 0 1;", "shockFor 0 = 1");
        Doc.answers(SPIRAL + "cap 0 1;shock 0 1;", "shockFor 0 = 0");
        Doc.answers(SPIRAL + "cap 0 1;shock 0 2;", "shockFor 0 = -2");
        Doc.answers("asset 9 0;" + HOUSE, "shockFor 0 = 200");
        Doc.answers(ASSET, "shockFor 0 = 200");
        Doc.answers("asset 200 0;house 0 0 0 1 0 1;", "shockFor 0 = 200");
        Doc.answers("asset 200 0;house 0 1 0 1 0 1;", "shockFor 0 = 199");
        Doc.answers("asset 200 0;house 0 200 0 1 0 1;", "shockFor 0 = 0");
        Doc.answers("asset 200 0;asset 5 0;house 0 201 0 1 0 1;", "shockFor 0 = -2",
                "shockFor 1 = -2");
        Doc.answers("asset 200 0;house 0 50 0 1 0 1;|lay 2 1 0 100", "shockFor 0 = 50");
        Doc.says(47, "NONE: no such ASSET.");
        Doc.none(SPIRAL, "shockFor -1", "shockFor 1", "shockFor 4", "shockFor MIN", "shockFor MAX");
        Doc.none("", "shockFor 0");
    }

    private static void domino() {
        Doc.says(48, "WITH a HOUSE FALLEN: as state() tells of LEAST.");
        Doc.answers(CHAIN, "state 1 4 = 0", "domino 0 4 = 7", "domino 1 4 = 6", "domino 2 4 = 4",
                "domino 0 6 = 3", "domino 1 6 = 2", "domino 2 7 = 0", "domino 0 5 = 0");
        Doc.answers(SPIRAL, "domino 0 4 = 3", "domino 0 0 = 9", "domino 1 5 = 81");
        Doc.answers(HOUSE.repeat(6), "domino 0 4 = 1", "domino 5 4 = 32");
        Doc.says(48, "NONE: no such ones.");
        Doc.none(CHAIN, "domino -1 4", "domino 3 4", "domino 6 4", "domino MIN 4", "domino MAX 4",
                "domino 0 -1", "domino 0 0", "domino 0 3", "domino 0 8", "domino 0 MIN",
                "domino 0 MAX");
        Doc.none("", "domino 0 4");
        Doc.none(SPIRAL, "domino 0 1");
    }

    private static void keystone() {
        Doc.says(49, "The HOUSE WITH which FALLEN most HOUSES are FALLEN, of several the first;");
        Doc.answers(CHAIN, "keystone = 0");
        Doc.answers(HOUSE.repeat(6), "keystone = 0");
        Doc.answers(HOUSE + HOUSE + "house 5 0 0 1 0;house 0 3 0 1 0;loan 2 3 4;", "keystone = 2");
        Doc.answers(HOUSE.repeat(4) + "house 0 1 0 1 0;house 1 0 0 1 0;loan 5 4 1;",
                "keystone = 5");
        // those that fall anyway count, too: each of these makes it two
        Doc.answers("house 0 1 0 1 0;" + HOUSE + HOUSE, "keystone = 1");
        Doc.answers("house 0 1 0 1 0;", "keystone = 0");
        Doc.says(49, "-2: no HOUSES.");
        Doc.answers("", "keystone = -2");
        Doc.answers(ASSET, "keystone = -2");
        Doc.answers("house 0 1 0 1 0;|close 0", "keystone = -2");
    }

    private static void pulls() {
        Doc.says(50, "HOUSES, but that one, that are FALLEN WITH a HOUSE FALLEN, not in LEAST "
                + "(bits).");
        Doc.answers(CHAIN, "pulls 0 = 6", "pulls 1 = 4", "pulls 2 = 0");
        // house 2 falls anyway: no one pulls it
        Doc.answers(CHAIN + "|set 2 1 5", "state 1 4 = 4", "pulls 0 = 2", "pulls 1 = 0",
                "pulls 2 = 0");
        Doc.answers(SPIRAL, "pulls 0 = 0", "pulls 1 = 0");
        Doc.answers(HOUSE.repeat(5) + "house 0 1 0 1 0;loan 0 5 1;", "state 1 4 = 33",
                "pulls 0 = 0");
        Doc.answers("house 1 0 0 1 0;" + HOUSE.repeat(4) + "house 0 1 0 1 0;loan 0 5 1;",
                "state 1 4 = 0", "pulls 0 = 32", "pulls 5 = 0");
        Doc.says(50, "NONE: no such HOUSE.");
        Doc.none(CHAIN, "pulls -1", "pulls 3", "pulls 6", "pulls MIN", "pulls MAX");
        Doc.none("", "pulls 0");
    }

    private static void room() {
        Doc.says(51, "The most coins (0 .. its CASH) that could go from a HOUSE so that none is "
                + "FALLEN; -2: not with 0.");
        Doc.answers(CHAIN, "room 0 = 0", "room 1 = 0", "room 2 = 0");
        Doc.answers(CHAIN + "|set 0 0 25", "room 0 = 15");
        Doc.answers(CHAIN + "|set 1 0 4", "room 1 = 4");
        Doc.answers(CHAIN + "|set 1 0 6", "room 1 = 6");
        Doc.answers(CHAIN + "|set 1 0 6|set 1 1 10", "room 1 = 2");
        Doc.answers("house 9999 0 0 1 0;", "room 0 = 9999");
        Doc.answers("house 9999 1 0 1 0;", "room 0 = 9998");
        Doc.answers("house 9999 9999 0 1 0;", "room 0 = 0");
        Doc.answers("house 9998 9999 0 1 0;" + HOUSE, "room 0 = -2", "room 1 = -2");
        Doc.answers(HOUSE, "room 0 = 0");
        Doc.answers(SPIRAL, "room 0 = -2", "room 1 = -2");
        Doc.answers("asset 200 0;house 5 0 0 1 0 60;", "room 0 = 5");
        Doc.says(51, "NONE: no such HOUSE.");
        Doc.none(CHAIN, "room -1", "room 3", "room 6", "room MIN", "room MAX");
        Doc.none("", "room 0");
    }

    private static void stress() {
        Doc.says(52, "Were BASE of each ASSET so many hundredths (0 .. 100) of what it is (cut; it "
                + "may be 0): as state() tells (LOST from CALM then).");
        // of 99: BASE 18 and 8; house 0 is worth 5, sells 3, then the price is 15: it falls
        String world = "asset 19 1;asset 9 0;house 0 85 8 1 0 5;house 0 0 0 1 0 0 2;";
        Doc.answers(world, "stress 100 6 = 0", "stress 100 5 = 0", "stress 99 6 = 1",
                "stress 99 5 = 25", "stress 99 0 = 5", "stress 99 1 = 0", "stress 0 5 = 0",
                "stress 0 7 = 5", "stress 0 6 = 1");
        // cut: 99 hundredths of 1 are 0, 50 of 3 are 1, 50 of 200 are 100
        Doc.answers("asset 1 0;house 0 1 0 1 0 1;", "stress 100 4 = 0", "stress 99 4 = 1");
        Doc.answers("asset 3 0;house 0 1 0 1 0 1;", "stress 34 4 = 0", "stress 33 4 = 1");
        Doc.answers("asset 200 0;house 0 100 0 1 0 1;", "stress 50 4 = 0", "stress 49 4 = 1");
        // SHOCKS are what they are; PRICE is 0 at least
        Doc.answers("asset 200 1;shock 0 90;house 0 10 0 1 0 1;", "stress 50 4 = 0",
                "stress 49 4 = 1", "stress 49 5 = 1", "stress 45 5 = 0", "stress 0 5 = 0");
        Doc.answers("asset 10 0;asset 20 0;asset 30 0;asset 40 0;house 0 50 0 1 0 1 1 1 1;",
                "stress 50 6 = 0", "stress 49 6 = 1", "stress 49 7 = 4");
        Doc.says(52, "NONE: no such ones.");
        Doc.none(world, "stress -1 5", "stress 101 5", "stress MIN 5", "stress MAX 5",
                "stress 50 -1", "stress 50 2", "stress 50 8", "stress 50 MIN", "stress 50 MAX");
        Doc.none("", "stress 50 0", "stress 101 4");
        Doc.answers("", "stress 0 4 = 0", "stress 100 7 = 0");
    }

    private static void fewest() {
        Doc.says(53, "The fewest hundredths so with which none is FALLEN; -2: not with 100.");
        Doc.answers("", "fewest = 0");
        Doc.answers("asset 9 1;house 5 0 0 1 0 3;", "fewest = 0");
        for (int debt = 1; debt <= 200; debt++) {
            Doc.answers("asset 200 0;house 0 " + debt + " 0 1 0 1;", "fewest = " + (debt + 1) / 2);
        }
        Doc.answers("asset 200 0;house 0 201 0 1 0 1;", "fewest = -2");
        Doc.answers("asset 1 0;house 0 1 0 1 0 1;", "fewest = 100");
        Doc.answers("house 0 1 0 1 0;", "fewest = -2");
        Doc.answers(SPIRAL, "fewest = -2");
        Doc.answers("asset 200 0;shock 0 100;house 0 50 0 1 0 1;", "fewest = 75");
    }

    private static void doubtful() {
        Doc.says(54, "HOUSES that are FALLEN in GREATEST, not in LEAST (bits).");
        Doc.answers("", "doubtful = 0");
        Doc.answers(TWO, "doubtful = 3");
        Doc.answers(SPIRAL, "doubtful = 0");
        Doc.answers(HOUSE.repeat(6), "doubtful = 0");
        String pair = "house 2 1 0 1 0;house 2 1 0 1 0;";
        Doc.answers("house 0 1 0 1 0;" + pair + "loan 1 2 2;loan 2 1 2;", "doubtful = 6");
        Doc.answers("house 0 1 0 1 0;house 0 1 0 1 0;house 0 1 0 1 0;loan 1 2 2;loan 2 1 2;"
                + "loan 0 1 1;", "doubtful = 0");
        Doc.answers(HOUSE.repeat(4) + pair + "loan 4 5 2;loan 5 4 2;", "doubtful = 48");
    }
}
