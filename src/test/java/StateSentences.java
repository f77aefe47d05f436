/** STATES: promises 23 to 34, and the terms of part II. */
final class StateSentences {
    private static final String ASSET = "asset 1 0;";
    private static final String HOUSE = "house 0 0 0 1 0;";

    /**
     * CALM: house 0 is worth 10 of floor 12, house 1 is worth 10. ROUND 1: 2 sold, price 18.
     * ROUND 2: 5 sold, price 15. ROUND 3: 9 sold, both fallen, price 11.
     */
    static final String SPIRAL = "asset 20 1;house 0 90 12 1 0 5;house 0 70 0 1 0 4;";

    /** In CALM all is steady; when both sell all, both are below 0: LEAST and GREATEST are two. */
    static final String TWO = "asset 20 2;house 0 50 9 1 0 3;house 0 50 9 1 0 3;";

    private StateSentences() {
    }

    static void all() {
        caps();
        shocks();
        stateTerms();
        priceTerms();
        worthTerms();
        mustSellTerms();
        mustSellByAssets();
        nextTerms();
        calmAndPanic();
        leastAndGreatest();
        state();
        rounds();
        priceAndWorth();
        mustSell();
        round();
        worthIn();
        sharpest();
        ranked();
        fellIn();
        next();
        isSteady();
    }

    private static void caps() {
        Doc.says(Doc.TERMS, "A CAP of an ASSET (0 .. 360): no more of it is SOLD; of several the "
                + "least counts (without: 360).");
        String fallen = "asset 9 0;house 0 999 0 1 0 60;";
        Doc.answers(fallen, "state 1 0 = 60", "state 2 0 = 60", "state 3 0 = 60");
        Doc.answers(fallen + "cap 0 61;", "state 1 0 = 60", "state 3 0 = 60");
        Doc.answers(fallen + "cap 0 60;", "state 1 0 = 60", "state 3 0 = 60");
        Doc.answers(fallen + "cap 0 59;", "state 1 0 = 59", "state 2 0 = 59", "state 3 0 = 59");
        Doc.answers(fallen + "cap 0 0;", "state 1 0 = 0", "state 2 0 = 0", "state 3 0 = 0",
                "state 1 4 = 1");
        Doc.answers(fallen + "cap 0 30;|lay 2 0 0 20", "state 1 0 = 20");
        Doc.answers(fallen + "cap 0 20;|lay 2 0 0 30", "state 1 0 = 20");
        Doc.answers(fallen + "cap 0 20;cap 0 30;cap 0 10;", "state 1 0 = 10");
        Doc.answers(fallen + "cap 0 10;cap 0 20;|lift 0 0", "state 1 0 = 20");
        String full = "asset 9 0;asset 9 0;" + "house 0 9999 0 1 0 60 60;".repeat(6);
        Doc.answers(full, "state 1 0 = 360", "state 1 1 = 360", "state 3 7 = 720");
        Doc.answers(full + "cap 1 360;", "state 1 0 = 360", "state 1 1 = 360");
        Doc.answers(full + "cap 1 359;", "state 1 0 = 360", "state 1 1 = 359", "state 3 7 = 719");
        // a SHOCK on the same SHELF is no CAP
        Doc.answers(fallen + "|lay 2 1 0 5", "state 1 0 = 60");
    }

    private static void shocks() {
        Doc.says(Doc.TERMS, "SHOCKS of an ASSET (0 .. 200 each): their sum counts.");
        Doc.answers("asset 200 0;asset 200 0;shock 0 5;shock 1 30;shock 0 0;"
                + "|lay 2 1 0 7|lay 2 0 0 9", "price 0 0 = 188", "price 0 1 = 170",
                "ofAsset 0 4 = 12", "ofAsset 0 0 = 200");
        Doc.answers("asset 200 0;shock 0 199;", "price 0 0 = 1");
        Doc.answers("asset 200 0;shock 0 200;", "price 0 0 = 0");
        Doc.answers("asset 200 0;shock 0 100;|lay 2 1 0 101", "price 0 0 = 0");
        Doc.answers("asset 200 0;shock 0 5;shock 0 6;|lift 1 0", "price 0 0 = 194");
    }

    private static void stateTerms() {
        Doc.says(Doc.TERMS, "A STATE: of each ASSET how many pieces are SOLD (0 .. HELD), which "
                + "HOUSES are FALLEN.");
        String world = ASSET.repeat(4) + "house 0 0 0 1 0 1 2 3 4;house 0 0 0 1 0 5 5 5 5;";
        Doc.answers(world, "isSteady 6007 8009 3 = 0", "isSteady 7007 8009 3 = -2",
                "isSteady 6008 8009 3 = -2", "isSteady 6007 9009 3 = -2",
                "isSteady 6007 8010 3 = -2", "isSteady 6007 8009 4 = -2");
        // a CAP does not bound what may be told as SOLD
        Doc.answers("asset 9 1;house 0 0 0 1 0 5;cap 0 2;", "next 5000 0 0 4 = 0",
                "isSteady 5000 0 0 = 0", "next 6000 0 0 4 = -2");
    }

    private static void priceTerms() {
        Doc.says(Doc.TERMS, "PRICE of an ASSET in a STATE: BASE less its SHOCKS less SLOPE times "
                + "what is SOLD, 0 at least.");
        String four = "house 0 9999 0 1 0 4;";
        Doc.answers("asset 9 2;" + four, "price 0 0 = 9", "price 1 0 = 1");
        Doc.answers("asset 8 2;" + four, "price 1 0 = 0");
        Doc.answers("asset 7 2;" + four, "price 1 0 = 0", "price 3 0 = 0");
        Doc.answers("asset 12 2;shock 0 3;" + four, "price 0 0 = 9", "price 1 0 = 1");
        Doc.answers("asset 12 2;shock 0 5;" + four, "price 0 0 = 7", "price 1 0 = 0");
        Doc.answers("asset 12 0;" + four, "price 0 0 = 12", "price 1 0 = 12");
        Doc.answers("asset 200 9;" + "house 0 9999 0 1 0 60;".repeat(6) + "shock 0 200;",
                "price 0 0 = 0", "price 1 0 = 0");
    }

    private static void worthTerms() {
        Doc.says(Doc.TERMS, "WORTH of a HOUSE in a STATE: CASH, HOLDINGS by PRICES, LOANS from "
                + "HOUSES that are not FALLEN to it, less DEBT, less LOANS from it.");
        String world = "asset 10 1;asset 7 2;house 100 30 0 1 0 3 4;house 0 0 0 1 0;"
                + "house 0 50 0 1 0;loan 1 0 5;loan 2 0 6;loan 0 1 7;loan 0 2 8;";
        // CALM: 100 + 30 + 28 + 11 - 30 - 15; house 2 is FALLEN then: 6 less, what it owes 8 stays
        Doc.answers(world, "worth 0 0 = 124", "worth 1 0 = 118", "worth 1 1 = 2",
                "worth 1 2 = -48");
        // PANIC: its own FALL does not count, prices 7 and 0
        Doc.answers(world, "worth 3 0 = 76", "worth 3 1 = -5", "worth 3 2 = -56");
        StringBuilder rich = new StringBuilder("asset 200 0;".repeat(4));
        rich.append("house 9999 0 0 1 0 60 60 60 60;").append("house 9999 0 0 1 0;".repeat(5));
        StringBuilder poor = new StringBuilder("house 0 9999 0 1 0;").append(HOUSE.repeat(5));
        for (int i = 1; i < 6; i++) {
            rich.append("loan ").append(i).append(" 0 999;");
            poor.append("loan 0 ").append(i).append(" 999;");
        }
        Doc.answers(rich.toString(), "worth 0 0 = 62994", "worth 1 0 = 62994", "worth 3 0 = 57999");
        Doc.answers(poor.toString(), "worth 0 0 = -14994", "worth 1 0 = -14994",
                "worth 3 0 = -14994");
    }

    private static void mustSellTerms() {
        Doc.says(Doc.TERMS, "It MUST SELL: if WORTH is below 0, all pieces;");
        Doc.answers("asset 10 0;house 0 30 0 99 0 3;", "mustSell 0 0 -1 = 0");
        Doc.answers("asset 10 0;house 0 31 0 99 0 3;", "mustSell 0 0 -1 = 3");
        Doc.answers("asset 10 0;house 0 31 1 99 0 3;", "mustSell 0 0 -1 = 3");
        Doc.answers(ASSET.repeat(4) + "house 0 9999 0 99 0 60 60 60 60;", "mustSell 0 0 -1 = 240");
        Doc.answers("house 0 1 0 1 0;", "mustSell 0 0 -1 = 0");
        Doc.says(Doc.TERMS, "else FLOOR less WORTH (0, if that is not above 0) by STEP, upwards, "
                + "all its pieces at most;");
        Doc.answers("asset 10 0;house 0 0 300 1 0 30;", "mustSell 0 0 -1 = 0");
        Doc.answers("asset 10 0;house 0 0 299 1 0 30;", "mustSell 0 0 -1 = 0");
        Doc.answers("asset 10 0;house 0 0 301 1 0 30;", "mustSell 0 0 -1 = 1");
        Doc.answers("asset 10 0;house 0 0 301 99 0 30;", "mustSell 0 0 -1 = 1");
        Doc.answers("asset 10 0;house 0 0 399 99 0 30;", "mustSell 0 0 -1 = 1");
        Doc.answers("asset 10 0;house 0 0 400 99 0 30;", "mustSell 0 0 -1 = 2");
        Doc.answers("asset 10 0;house 0 0 498 99 0 30;", "mustSell 0 0 -1 = 2");
        Doc.answers("asset 10 0;house 0 0 499 99 0 30;", "mustSell 0 0 -1 = 3");
        Doc.answers("asset 10 0;house 0 0 329 1 0 30;", "mustSell 0 0 -1 = 29");
        Doc.answers("asset 10 0;house 0 0 330 1 0 30;", "mustSell 0 0 -1 = 30");
        Doc.answers("asset 10 0;house 0 0 331 1 0 30;", "mustSell 0 0 -1 = 30");
        Doc.answers("asset 10 0;house 0 0 9999 1 0 30;", "mustSell 0 0 -1 = 30");
        Doc.answers("asset 10 0;house 0 300 1 2 0 30;", "mustSell 0 0 -1 = 1");
        // each HOUSE by its own STEP
        Doc.answers("asset 10 0;house 0 0 309 1 0 30;house 0 0 309 2 0 30;house 0 0 309 3 0 30;"
                + "house 0 0 309 4 0 30;house 0 0 309 5 0 30;house 0 0 309 9 0 30;",
                "mustSell 0 0 0 = 9", "mustSell 0 1 0 = 5", "mustSell 0 2 0 = 3",
                "mustSell 0 3 0 = 3", "mustSell 0 4 0 = 2", "mustSell 0 5 0 = 1");
        Doc.answers("house 0 0 9999 1 0;", "mustSell 0 0 -1 = 0");
    }

    private static void mustSellByAssets() {
        Doc.says(Doc.TERMS, "by ASSETS rising (WAY 0) or falling (WAY 1), of each as far as it "
                + "holds of it.");
        String assets = "asset 10 0;".repeat(4);
        // each HOUSE by its own WAY
        Doc.answers(assets + ("house 0 0 41 1 0 1 1 1 1;" + "house 0 0 41 1 1 1 1 1 1;").repeat(3),
                "mustSell 0 0 0 = 1", "mustSell 0 1 0 = 0", "mustSell 0 1 3 = 1",
                "mustSell 0 4 0 = 1", "mustSell 0 4 3 = 0", "mustSell 0 5 0 = 0",
                "mustSell 0 5 3 = 1");
        // WORTH 100; by STEP 1 as many pieces as the FLOOR is above 100
        int[][] rising = {{1, 0, 0, 0}, {2, 0, 0, 0}, {2, 0, 1, 0}, {2, 0, 2, 0}, {2, 0, 3, 0},
            {2, 0, 3, 1}, {2, 0, 3, 5}, {2, 0, 3, 5}};
        int[][] falling = {{0, 0, 0, 1}, {0, 0, 0, 5}, {0, 0, 1, 5}, {0, 0, 3, 5}, {1, 0, 3, 5},
            {2, 0, 3, 5}, {2, 0, 3, 5}, {2, 0, 3, 5}};
        int[] rise = {1, 2, 3, 4, 5, 6, 10, 99};
        int[] fall = {1, 5, 6, 8, 9, 10, 11, 99};
        for (int i = 0; i < rise.length; i++) {
            for (int asset = 0; asset < 4; asset++) {
                Doc.answer(assets + "house 0 0 " + (100 + rise[i]) + " 1 0 2 0 3 5;",
                        "mustSell 0 0 " + asset, rising[i][asset]);
                Doc.answer(assets + "house 0 0 " + (100 + fall[i]) + " 1 1 2 0 3 5;",
                        "mustSell 0 0 " + asset, falling[i][asset]);
            }
        }
    }

    private static void nextTerms() {
        Doc.says(Doc.TERMS, "The NEXT of a STATE: of each ASSET all that HOUSES MUST SELL of it by "
                + "PRICES, WORTH of that STATE, its CAP at most; FALLEN: those whose WORTH is "
                + "below 0 there.");
        Doc.answers(SPIRAL, "next 0 0 0 0 = 2", "next 2000 0 0 0 = 5", "next 5000 0 0 0 = 9",
                "next 5000 0 0 4 = 3", "next 9000 0 3 0 = 9");
        // who is FALLEN in that STATE need not be in the NEXT one
        Doc.answers(SPIRAL, "next 0 0 3 4 = 0", "next 0 0 3 0 = 2", "next 2000 0 3 4 = 0",
                "next 3000 0 0 4 = 3");
        Doc.answers(SPIRAL + "cap 0 4;", "next 5000 0 0 0 = 4", "next 2000 0 0 0 = 4",
                "next 0 0 0 0 = 2");
        Doc.says(Doc.TERMS, "STEADY is a STATE that is its own NEXT.");
        Doc.answers(SPIRAL, "isSteady 0 0 0 = 0", "isSteady 9000 0 3 = 1", "isSteady 9000 0 0 = 0",
                "isSteady 9000 0 1 = 0", "isSteady 8000 0 3 = 0");
        Doc.answers(TWO, "isSteady 0 0 0 = 1", "isSteady 6000 0 3 = 1", "isSteady 0 0 3 = 0",
                "isSteady 6000 0 0 = 0");
    }

    private static void calmAndPanic() {
        Doc.says(Doc.TERMS, "CALM: nothing SOLD, none FALLEN. PANIC: all HELD is SOLD (not above "
                + "CAPS), all are FALLEN.");
        String world = "asset 10 1;asset 7 0;house 0 999 0 1 0 3 60;house 50 0 0 1 0 4;cap 0 6;";
        Doc.answers(world, "state 0 0 = 0", "state 0 1 = 0", "state 0 4 = 0", "state 0 5 = 0",
                "state 0 6 = 0", "state 0 7 = 0");
        Doc.answers(world, "state 3 0 = 6", "state 3 1 = 60", "state 3 4 = 3", "state 3 5 = 42",
                "state 3 6 = 2", "state 3 7 = 66");
        Doc.answers("", "state 3 4 = 0", "state 3 5 = 0", "state 3 6 = 0", "state 3 7 = 0",
                "state 0 4 = 0", "state 1 4 = 0", "state 2 7 = 0");
        Doc.answers(HOUSE.repeat(6), "state 3 4 = 63", "state 3 6 = 6", "state 0 4 = 0",
                "state 2 4 = 0");
    }

    private static void leastAndGreatest() {
        Doc.says(Doc.TERMS, "LEAST: the STATE to which one comes from CALM, each time to the NEXT "
                + "one, till it is STEADY; GREATEST likewise from PANIC. ROUND k: the STATE k "
                + "NEXTS behind CALM.");
        Doc.answers(TWO, "state 1 4 = 0", "state 1 0 = 0", "state 2 4 = 3", "state 2 0 = 6",
                "round 5 0 = 0");
        Doc.answers(SPIRAL, "state 1 0 = 9", "state 2 0 = 9", "round 0 0 = 0", "round 1 0 = 2",
                "round 2 0 = 5", "round 3 0 = 9", "round 4 0 = 9");
        // each HOUSE falls as the one that owes it does: FALLEN alone goes on from ROUND to ROUND
        String chain = "house 0 1 0 1 0;" + HOUSE.repeat(4) + "house 0 1 0 1 0;loan 0 1 1;"
                + "loan 1 2 1;loan 2 3 1;loan 3 4 1;loan 4 5 1;";
        Doc.answers(chain, "state 1 4 = 63", "rounds false = 6", "round 1 4 = 1", "round 2 4 = 3",
                "round 5 4 = 31", "round 6 4 = 63", "round 7 4 = 63");
        Doc.answers(chain + "|set 0 1 0|set 0 0 1", "state 1 4 = 0", "rounds true = 6",
                "rounds false = 0", "state 2 4 = 0");
        Doc.says(Doc.TERMS, "LOST in a STATE: for each ASSET, HELD times what its PRICE in CALM is "
                + "more than that in the STATE, together.");
        Doc.answers(SPIRAL, "state 0 5 = 0", "state 1 5 = 81", "round 1 5 = 18", "round 2 5 = 45");
        String fallen = "house 0 9999 0 1 0 4 5;";
        Doc.answers("asset 10 1;asset 20 2;" + fallen, "state 1 5 = 66");
        Doc.answers("asset 10 1;asset 20 2;shock 0 8;shock 1 20;" + fallen, "state 1 5 = 8");
        Doc.answers("asset 10 0;asset 20 0;" + fallen, "state 1 5 = 0");
        Doc.answers("asset 200 9;".repeat(4) + "house 0 9999 0 1 0 60 60 60 60;".repeat(6),
                "state 3 5 = 288000");
    }

    private static void state() {
        Doc.says(23, "Of a STATE: 0 to 3 how many of that ASSET are SOLD, 4 which are FALLEN "
                + "(bits), 5 LOST, 6 how many are FALLEN, 7 all that is SOLD.");
        String world = "asset 10 1;asset 20 0;asset 30 0;asset 40 1;house 0 9999 0 1 0 1 2 3 4;"
                + "house 9999 0 0 1 0 5;house 0 1 0 1 0;";
        Doc.answers(world, "state 1 0 = 1", "state 1 1 = 2", "state 1 2 = 3", "state 1 3 = 4",
                "state 1 4 = 5", "state 1 5 = 22", "state 1 6 = 2", "state 1 7 = 10");
        Doc.answers(world, "state 3 0 = 6", "state 3 1 = 2", "state 3 4 = 7", "state 3 6 = 3",
                "state 3 7 = 15", "state 2 4 = 5", "state 2 7 = 10");
        Doc.says(23, "NONE: no such ones.");
        Doc.none(world, "state -1 4", "state 4 4", "state MIN 4", "state MAX 4", "state 0 -1",
                "state 0 8", "state 1 MIN", "state 1 MAX");
        Doc.none("", "state 0 0", "state 1 0", "state 2 1", "state 3 3");
        Doc.none(ASSET.repeat(3), "state 0 3", "state 1 3", "state 3 3");
        Doc.none(ASSET, "state 0 1", "state 1 1", "state 2 2");
        Doc.answers(ASSET, "state 1 0 = 0");
        // fewer ASSETS than an earlier TEXT told
        Thing t = Thing.of(world + "|state 3 7|asset 9 1;house 0 0 0 1 0 3;");
        Doc.due("PANIC of fewer ASSETS", t.call("state 3 7"), 3);
        Doc.none(world + "|" + SPIRAL, "state 1 1", "state 3 2");
        Doc.answers(world + "|" + SPIRAL, "state 1 0 = 9", "state 1 4 = 3", "state 1 7 = 9",
                "state 3 7 = 9", "state 3 4 = 3", "state 0 7 = 0", "rounds false = 3");
    }

    private static void rounds() {
        Doc.says(24, "After how many NEXTS from CALM LEAST is come to first (greatest false), from "
                + "PANIC GREATEST (true).");
        Doc.answers("", "rounds false = 0", "rounds true = 0");
        Doc.answers(SPIRAL, "rounds false = 3", "rounds true = 0");
        Doc.answers(TWO, "rounds false = 0", "rounds true = 0");
        Doc.answers(HOUSE, "rounds false = 0", "rounds true = 1");
        Doc.answers("house 0 1 0 1 0;", "rounds false = 1", "rounds true = 0");
        // PANIC: one FALLEN and 4 of 12 may be SOLD; then none is
        Doc.answers("asset 10 1;asset 10 2;house 100 0 0 1 0 3 9;house 0 5 0 1 0;cap 1 4;",
                "rounds false = 1", "rounds true = 1");
    }

    private static void priceAndWorth() {
        Doc.says(25, "PRICE of an ASSET in a STATE.");
        Doc.answers(SPIRAL, "price 0 0 = 20", "price 1 0 = 11", "price 2 0 = 11", "price 3 0 = 11");
        Doc.answers(TWO, "price 0 0 = 20", "price 1 0 = 20", "price 2 0 = 8", "price 3 0 = 8");
        Doc.says(25, "NONE: no such ones.");
        Doc.none(SPIRAL, "price -1 0", "price 4 0", "price MIN 0", "price MAX 0", "price 0 -1",
                "price 0 1", "price 1 4", "price 0 MIN", "price 0 MAX");
        Doc.none("", "price 0 0", "price 3 0");
        Doc.says(26, "WORTH of a HOUSE in a STATE.");
        Doc.answers(SPIRAL, "worth 0 0 = 10", "worth 0 1 = 10", "worth 1 0 = -35",
                "worth 1 1 = -26", "worth 2 0 = -35", "worth 3 1 = -26");
        Doc.answers(TWO, "worth 1 0 = 10", "worth 2 0 = -26");
        Doc.answers(HOUSE, "worth 0 0 = 0", "worth 3 0 = 0");
        Doc.says(26, "-1000000: no such ones.");
        for (String call : new String[] {"worth -1 0", "worth 4 0", "worth MIN 0", "worth MAX 0",
            "worth 0 -1", "worth 0 2", "worth 1 6", "worth 0 MIN", "worth 0 MAX"}) {
            Doc.answer(SPIRAL, call, -1000000);
            Doc.answer("", call, -1000000);
        }
        Doc.answer("", "worth 0 0", -1000000);
    }

    private static void mustSell() {
        Doc.says(27, "How many pieces a HOUSE MUST SELL in a STATE, asset NONE: all, else of that "
                + "ASSET.");
        String world = "asset 10 0;asset 10 0;house 0 0 45 1 1 2 2;house 0 99 0 1 0 1 3;cap 1 1;";
        Doc.answers(world, "mustSell 0 0 -1 = 4", "mustSell 0 0 0 = 2", "mustSell 0 0 1 = 2",
                "mustSell 0 1 -1 = 4", "mustSell 0 1 0 = 1", "mustSell 0 1 1 = 3");
        Doc.answers(SPIRAL, "mustSell 0 0 -1 = 2", "mustSell 0 1 -1 = 0", "mustSell 1 0 0 = 5",
                "mustSell 1 1 0 = 4", "mustSell 2 0 -1 = 5", "mustSell 3 1 -1 = 4");
        Doc.answers(TWO, "mustSell 1 0 -1 = 0", "mustSell 2 0 -1 = 3");
        Doc.says(27, "NONE: no such ones.");
        Doc.none(world, "mustSell -1 0 -1", "mustSell 4 0 -1", "mustSell MIN 0 0",
                "mustSell MAX 0 0", "mustSell 0 -1 -1", "mustSell 0 2 -1", "mustSell 0 6 0",
                "mustSell 0 MIN 0", "mustSell 0 MAX 0", "mustSell 0 0 -2", "mustSell 0 0 2",
                "mustSell 0 0 4", "mustSell 0 0 MIN", "mustSell 0 0 MAX", "mustSell 0 2 0");
        Doc.none("", "mustSell 0 0 -1");
        Doc.none(HOUSE, "mustSell 0 0 0");
        Doc.answers(HOUSE, "mustSell 0 0 -1 = 0");
    }

    private static void round() {
        Doc.says(28, "Of ROUND k (0 .. 2000): as state() tells.");
        Doc.answers(SPIRAL, "round 0 7 = 0", "round 1 7 = 2", "round 2 4 = 0", "round 3 4 = 3",
                "round 3 6 = 2", "round 1999 7 = 9", "round 2000 7 = 9", "round 2000 4 = 3",
                "round 2000 5 = 81", "round 2000 0 = 9");
        Doc.answers("", "round 0 4 = 0", "round 2000 7 = 0");
        // one piece more in each ROUND: what it sells makes it worth that much less
        String slow = "asset 60 1;".repeat(4) + "house 0 4402 9999 60 0 60 60 60 60;";
        Thing t = Thing.of(slow);
        long rounds = t.call("rounds false");
        Doc.due("it goes on for long", rounds > 100 ? 1 : 0, 1);
        Doc.due("and comes to LEAST", t.call("round 2000 7"), t.call("state 1 7"));
        Doc.due("then first", t.call("round " + rounds + " 7"), t.call("state 1 7"));
        Doc.due("not ahead of that", t.call("round " + (rounds - 1) + " 7") < t.call("state 1 7")
                ? 1 : 0, 1);
        Doc.says(28, "NONE: no such ones.");
        Doc.none(SPIRAL, "round -1 7", "round 2001 7", "round MIN 7", "round MAX 7", "round 0 -1",
                "round 0 8", "round 1 1", "round 1 3", "round 1 MIN", "round 1 MAX");
        Doc.none("", "round 0 0", "round -1 4", "round 2001 4");
    }

    private static void worthIn() {
        Doc.says(29, "WORTH of a HOUSE in ROUND k (0 .. 2000).");
        Doc.answers(SPIRAL, "worthIn 0 0 = 10", "worthIn 0 1 = 10", "worthIn 1 0 = 0",
                "worthIn 1 1 = 2", "worthIn 2 0 = -15", "worthIn 2 1 = -10", "worthIn 3 0 = -35",
                "worthIn 4 1 = -26", "worthIn 2000 0 = -35", "worthIn 2000 1 = -26");
        Doc.says(29, "-1000000: no such ones.");
        for (String call : new String[] {"worthIn -1 0", "worthIn 2001 0", "worthIn MIN 0",
            "worthIn MAX 0", "worthIn 0 -1", "worthIn 0 2", "worthIn 0 6", "worthIn 0 MIN",
            "worthIn 0 MAX"}) {
            Doc.answer(SPIRAL, call, -1000000);
        }
        Doc.answer("", "worthIn 0 0", -1000000);
    }

    private static void sharpest() {
        Doc.says(30, "The ROUND by which LOST becomes so much more as by no other one, of several "
                + "the first;");
        Doc.answers(SPIRAL, "sharpest = 3");
        // LOST 30 as house 0 falls, then 6 more as house 1 sells its piece
        Doc.answers("asset 20 1;house 0 999 0 1 0 5;house 0 10 8 9 0 1;", "round 1 5 = 30",
                "round 2 5 = 36", "sharpest = 1");
        // 3 more in each of three ROUNDS
        Doc.answers("asset 40 1;house 0 110 11 3 0 3;", "round 1 5 = 3", "round 2 5 = 6",
                "round 3 5 = 9", "sharpest = 1");
        Doc.answers("asset 2 1;house 0 9 0 1 0 1;", "round 1 5 = 1", "sharpest = 1");
        Doc.says(30, "-2: by none it becomes more.");
        Doc.answers("", "sharpest = -2");
        Doc.answers(TWO, "sharpest = -2");
        // pieces are SOLD, but no PRICE falls: of SLOPE 0, or 0 in CALM already
        Doc.answers("asset 20 0;house 0 999 0 1 0 5;", "sharpest = -2");
        Doc.answers("asset 20 5;shock 0 20;house 0 999 0 1 0 5;", "sharpest = -2");
        Doc.answers("house 0 1 0 1 0;", "sharpest = -2");
    }

    private static void ranked() {
        Doc.says(31, "The k-th HOUSE (from 0 on) by the first ROUND in which it is FALLEN (those "
                + "that are in none behind all), of like ones by numbers.");
        // 3 falls, then 1 that it owes, then 0 that this one owes; 2 and 4 never
        String world = "house 0 1 0 1 0;house 0 1 0 1 0;house 0 0 0 1 0;house 0 9 0 1 0;"
                + "house 0 0 0 1 0;loan 3 1 9;loan 1 0 5;";
        Doc.answers(world, "ranked 0 = 3", "ranked 1 = 1", "ranked 2 = 0", "ranked 3 = 2",
                "ranked 4 = 4");
        Doc.answers("house 0 1 0 1 0;".repeat(6), "ranked 0 = 0", "ranked 3 = 3", "ranked 5 = 5");
        Doc.answers(HOUSE.repeat(6), "ranked 0 = 0", "ranked 5 = 5");
        Doc.answers(HOUSE + "house 0 1 0 1 0;" + HOUSE + "house 0 1 0 1 0;", "ranked 0 = 1",
                "ranked 1 = 3", "ranked 2 = 0", "ranked 3 = 2");
        Doc.says(31, "NONE: no such k.");
        Doc.none(world, "ranked -1", "ranked 5", "ranked 6", "ranked MIN", "ranked MAX");
        Doc.none("", "ranked 0");
    }

    private static void fellIn() {
        Doc.says(32, "The first ROUND in which a HOUSE is FALLEN; -2: in none.");
        Doc.answers(SPIRAL, "fellIn 0 = 3", "fellIn 1 = 3");
        Doc.answers("house 0 1 0 1 0;house 0 0 0 1 0;house 0 1 0 1 0;loan 0 1 1;loan 1 2 1;",
                "fellIn 0 = 1", "fellIn 1 = 2", "fellIn 2 = 3");
        Doc.answers(TWO, "fellIn 0 = -2", "fellIn 1 = -2");
        Doc.answers("house 0 1 0 1 0;house 5 5 0 1 0;", "fellIn 0 = 1", "fellIn 1 = -2");
        Doc.says(32, "NONE: no such HOUSE.");
        Doc.none(SPIRAL, "fellIn -1", "fellIn 2", "fellIn 6", "fellIn MIN", "fellIn MAX");
        Doc.none("", "fellIn 0");
    }

    private static void next() {
        Doc.says(33, "Of the NEXT of a STATE told (SOLD: 1000 times that of ASSET 0 and that of 1; "
                + "of 2, 3 likewise; FALLEN as bits): as state() tells.");
        String world = "asset 10 1;asset 20 2;asset 30 3;asset 40 4;house 0 0 9999 1 0 1 2 3 4;"
                + "house 0 10 0 1 0;loan 0 1 99;";
        // of each ASSET that is SOLD the house is worth so much less that it is sold at last
        Doc.answers(world, "next 0 0 0 0 = 1", "next 0 0 0 1 = 2", "next 0 0 0 2 = 3",
                "next 0 0 0 3 = 4", "next 0 0 0 4 = 0", "next 0 0 1 4 = 2", "next 0 0 2 4 = 0",
                "next 0 0 3 6 = 1", "next 1002 3004 3 7 = 10");
        // by one of each its PRICE falls by 1, 2, 3, 4
        Doc.answers(world, "next 1002 3004 0 5 = 100");
        String each = "asset 10 1;asset 20 2;asset 30 3;asset 40 4;house 0 0 301 1 0 1 2 3 4;";
        Doc.answers(each, "next 0 0 0 7 = 1", "next 1000 0 0 7 = 2", "next 1 0 0 7 = 5",
                "next 0 1000 0 7 = 10", "next 0 1 0 7 = 10");
        Doc.answers(each + "|set 0 3 9", "next 1000 0 0 7 = 1", "next 2 0 0 7 = 1",
                "next 0 1000 0 7 = 2", "next 0 1 0 7 = 2", "next 0 2000 0 7 = 3",
                "next 0 2 0 7 = 4");
        nextRefused(world);
    }

    private static void nextRefused(String world) {
        Doc.says(33, "-2: that is no STATE (more is SOLD than HELD, also of an ASSET that there is "
                + "not; HOUSES that there are not; below 0).");
        Doc.answers(world, "next 2000 0 0 4 = -2", "next 3 0 0 4 = -2", "next 999 0 0 4 = -2",
                "next 0 4000 0 4 = -2", "next 0 5 0 4 = -2", "next MAX 0 0 4 = -2",
                "next 0 MAX 0 4 = -2", "next 1000000 0 0 4 = -2");
        Doc.answers("asset 9 1;house 0 0 0 1 0 3;", "next 3000 0 0 4 = 0", "next 4000 0 0 4 = -2",
                "next 1 0 0 4 = -2", "next 0 1000 0 4 = -2", "next 0 1 0 4 = -2");
        Doc.answers("", "next 0 0 0 4 = 0", "next 1000 0 0 4 = -2", "next 0 1 0 4 = -2",
                "next 0 0 1 4 = -2");
        Doc.answers(world, "next 0 0 4 4 = -2", "next 0 0 64 4 = -2", "next 0 0 MAX 4 = -2",
                "next -1 0 0 4 = -2", "next -1000 0 0 4 = -2", "next 0 -1 0 4 = -2",
                "next 0 -1000 0 4 = -2", "next 0 0 -1 4 = -2", "next MIN 0 0 4 = -2",
                "next 0 MIN 0 4 = -2", "next 0 0 MIN 4 = -2");
        // what was HELD of more ASSETS in an earlier TEXT
        Doc.answers(world + "|state 3 7|asset 9 1;house 0 0 0 1 0 3;", "next 1 0 0 4 = -2",
                "next 0 1 0 4 = -2", "next 0 1000 0 4 = -2", "state 3 7 = 3");
        Doc.answers(HOUSE.repeat(6), "next 0 0 63 4 = 0", "next 0 0 64 4 = -2",
                "next 0 0 127 4 = -2");
        Doc.says(33, "NONE: what is asked is none of these, or an ASSET that there is not.");
        Doc.none(world, "next 0 0 0 -1", "next 0 0 0 8", "next 0 0 0 MIN", "next 0 0 0 MAX");
        Doc.none("", "next 0 0 0 0", "next 0 0 0 3");
        Doc.none(ASSET.repeat(3), "next 0 0 0 3");
        Doc.answers(ASSET.repeat(3), "next 0 0 0 2 = 0");
        // ahead of -2
        Doc.none(world, "next -1 0 0 8", "next 0 0 64 -1", "next MAX MAX MAX MAX");
        Doc.none(ASSET, "next 1 0 0 1", "next 0 0 1 3");
    }

    private static void isSteady() {
        Doc.says(34, "Whether a STATE told so is STEADY (1, 0);");
        Doc.answers("", "isSteady 0 0 0 = 1");
        Doc.answers(HOUSE, "isSteady 0 0 0 = 1", "isSteady 0 0 1 = 0");
        String world = "asset 10 0;".repeat(4) + "house 0 9999 0 1 0 1 2 3 4;house 5 0 0 1 0;";
        Doc.answers(world, "isSteady 1002 3004 1 = 1", "isSteady 2 3004 1 = 0",
                "isSteady 1001 3004 1 = 0", "isSteady 1002 2004 1 = 0", "isSteady 1002 3003 1 = 0",
                "isSteady 1002 3004 0 = 0", "isSteady 1002 3004 2 = 0", "isSteady 1002 3004 3 = 0");
        Doc.says(34, "-2: it is no STATE.");
        Doc.answers(world, "isSteady 2000 0 0 = -2", "isSteady 3 0 0 = -2",
                "isSteady 0 4000 0 = -2", "isSteady 0 5 0 = -2", "isSteady 0 0 4 = -2",
                "isSteady -1 0 0 = -2", "isSteady 0 -1 0 = -2", "isSteady 0 0 -1 = -2",
                "isSteady MAX MAX MAX = -2", "isSteady MIN MIN MIN = -2");
        Doc.answers("", "isSteady 1 0 0 = -2", "isSteady 1000 0 0 = -2", "isSteady 0 1 0 = -2",
                "isSteady 0 1000 0 = -2", "isSteady 0 0 1 = -2");
    }
}
