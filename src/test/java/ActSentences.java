/** What is done: promises 5 to 17, and the terms of things, SHELVES, LIVED and ACTS. */
final class ActSentences {
    private static final String ASSET = "asset 1 0;";
    private static final String HOUSE = "house 0 0 0 1 0;";

    private ActSentences() {
    }

    static void all() {
        asset();
        house();
        set();
        hold();
        loan();
        curve();
        lay();
        layRefused();
        lift();
        net();
        mergeThings();
        mergeNumbers();
        close();
        live();
        liveSells();
        liveCloses();
        undo();
        undoLatest();
    }

    private static void asset() {
        Doc.says(Doc.TERMS, "ASSETS 0, 1, .. (at most 4):");
        for (int n = 0; n < 4; n++) {
            Doc.does(ASSET.repeat(n), "asset 5 5 = " + n, ASSET.repeat(n) + "asset 5 5;");
        }
        Doc.says(Doc.TERMS, "BASE (1 .. 200), SLOPE (0 .. 9).");
        Doc.does("", "asset 1 0 = 0", "asset 1 0;");
        Doc.does("", "asset 200 9 = 0", "asset 200 9;");
        Doc.says(5, "An ASSET comes (nobody holds it): its number;");
        Doc.does("house 5 0 0 1 0;", "asset 10 1 = 0", "asset 10 1;house 5 0 0 1 0 0;");
        Doc.does(ASSET.repeat(3) + "house 1 1 1 1 1 60 60 60;", "asset 200 9 = 3",
                ASSET.repeat(3) + "asset 200 9;house 1 1 1 1 1 60 60 60 0;");
        Doc.does("|house 1 1|asset 5 5|hold 0 0 9|undo|undo", "asset 10 1 = 0",
                "asset 10 1;house 1 1 0 1 0 0;");
        Doc.does(ASSET + ASSET + "house 1 1 1 1 1 5 6;|" + ASSET + "house 2 2 2 2 1 7;",
                "asset 10 1 = 1", ASSET + "asset 10 1;house 2 2 2 2 1 7 0;");
        Doc.says(5, "NONE, and nothing happens: out of bounds, there are 4.");
        Doc.none("", "asset 0 0", "asset 201 0", "asset -1 0", "asset 1 -1", "asset 1 10",
                "asset MIN 0", "asset MAX 0", "asset 1 MIN", "asset 1 MAX", "asset 257 0",
                "asset 1 256");
        Doc.none(ASSET.repeat(4), "asset 1 0", "asset 200 9", "asset 0 0");
        Doc.none("|asset 1 0|asset 1 0|asset 1 0|asset 1 0", "asset 1 0");
    }

    private static void house() {
        Doc.says(Doc.TERMS, "HOUSES 0, 1, .. (at most 6):");
        for (int n = 0; n < 6; n++) {
            Doc.does(HOUSE.repeat(n), "house 5 6 = " + n, HOUSE.repeat(n) + "house 5 6 0 1 0;");
        }
        Doc.says(6, "A HOUSE comes (FLOOR, HOLDINGS, LOANS 0, STEP 1, WAY 0): its number;");
        Doc.does("", "house 0 0 = 0", HOUSE);
        Doc.does("", "house 9999 9999 = 0", "house 9999 9999 0 1 0;");
        String full = "house 1 2 3 4 1 5;";
        String loans = "loan 0 1 6;loan 1 0 7;";
        Doc.does(ASSET + full + full + loans + "|close 1", "house 8 9 = 1",
                ASSET + full + "house 8 9 0 1 0 0;");
        Doc.does(ASSET + full + full + loans + "|merge 0 1", "house 8 9 = 1",
                ASSET + "house 2 4 6 4 1 10;house 8 9 0 1 0 0;");
        Doc.does(ASSET + full + full + loans + "|" + ASSET + full, "house 8 9 = 1",
                ASSET + full + "house 8 9 0 1 0 0;");
        Doc.does(ASSET + full + "|house 7 7|set 1 2 7|set 1 3 7|set 1 4 1|hold 1 0 7|loan 0 1 7"
                + "|undo|undo|undo|undo|undo|undo", "house 8 9 = 1",
                ASSET + full + "house 8 9 0 1 0 0;");
        Doc.says(6, "NONE, and nothing happens: out of bounds, there are 6.");
        Doc.none("", "house -1 0", "house 10000 0", "house 0 -1", "house 0 10000", "house MIN 0",
                "house MAX 0", "house 0 MIN", "house 0 MAX");
        Doc.none(HOUSE.repeat(6), "house 0 0", "house 9999 9999", "house -1 0");
    }

    private static void set() {
        Doc.says(Doc.TERMS, "CASH, DEBT, FLOOR (0 .. 9999 each), STEP (1 .. 99), WAY (0, 1),");
        Doc.does("house 1 1 1 2 1;", "set 0 0 0 = 1", "house 0 1 1 2 1;");
        Doc.does("house 1 1 1 2 1;", "set 0 1 0 = 1", "house 1 0 1 2 1;");
        Doc.does("house 1 1 1 2 1;", "set 0 2 0 = 1", "house 1 1 0 2 1;");
        Doc.does("house 1 1 1 2 1;", "set 0 3 1 = 2", "house 1 1 1 1 1;");
        Doc.does("house 1 1 1 2 1;", "set 0 4 0 = 1", "house 1 1 1 2 0;");
        Doc.says(7, "CASH (what 0), DEBT (1), FLOOR (2), STEP (3), WAY (4) of a HOUSE is another "
                + "one: which it was;");
        String three = "house 1 2 3 4 0;".repeat(2);
        Doc.does(three + HOUSE, "set 1 0 9999 = 1", "house 1 2 3 4 0;house 9999 2 3 4 0;" + HOUSE);
        Doc.does(three + HOUSE, "set 1 1 9999 = 2", "house 1 2 3 4 0;house 1 9999 3 4 0;" + HOUSE);
        Doc.does(three + HOUSE, "set 1 2 9999 = 3", "house 1 2 3 4 0;house 1 2 9999 4 0;" + HOUSE);
        Doc.does(three + HOUSE, "set 1 3 99 = 4", "house 1 2 3 4 0;house 1 2 3 99 0;" + HOUSE);
        Doc.does(three + HOUSE, "set 1 4 1 = 0", "house 1 2 3 4 0;house 1 2 3 4 1;" + HOUSE);
        Doc.does(HOUSE.repeat(6), "set 5 0 7 = 0", HOUSE.repeat(5) + "house 7 0 0 1 0;");
        Doc.says(7, "NONE: no such ones, out of bounds, it is so.");
        Doc.none(three, "set -1 0 5", "set 2 0 5", "set MIN 0 5", "set MAX 0 5", "set 0 -1 1",
                "set 0 5 1", "set 0 6 1", "set 0 MIN 1", "set 0 MAX 1");
        Doc.none(three, "set 0 0 -1", "set 0 0 10000", "set 0 1 -1", "set 0 1 10000",
                "set 0 2 -1", "set 0 2 10000", "set 0 3 0", "set 0 3 100", "set 0 3 -1",
                "set 0 4 -1", "set 0 4 2", "set 0 0 MIN", "set 0 0 MAX", "set 0 3 MIN",
                "set 0 4 MAX");
        Doc.none(three, "set 0 0 1", "set 0 1 2", "set 0 2 3", "set 0 3 4", "set 0 4 0");
        Doc.none("", "set 0 0 5");
    }

    private static void hold() {
        Doc.says(Doc.TERMS, "HOLDING of each ASSET (0 .. 60 pieces).");
        String world = ASSET + ASSET + "house 0 0 0 1 0 5 6;house 0 0 0 1 0 7 8;";
        Doc.does(world, "hold 0 0 0 = 5",
                ASSET + ASSET + "house 0 0 0 1 0 0 6;house 0 0 0 1 0 7 8;");
        Doc.does(world, "hold 0 1 60 = 6",
                ASSET + ASSET + "house 0 0 0 1 0 5 60;house 0 0 0 1 0 7 8;");
        Doc.says(8, "A HOLDING is another one: which it was;");
        Doc.does(world, "hold 1 0 9 = 7",
                ASSET + ASSET + "house 0 0 0 1 0 5 6;house 0 0 0 1 0 9 8;");
        Doc.does(ASSET.repeat(4) + HOUSE.repeat(6), "hold 5 3 60 = 0", ASSET.repeat(4)
                + "house 0 0 0 1 0 0 0 0 0;".repeat(5) + "house 0 0 0 1 0 0 0 0 60;");
        Doc.says(8, "NONE: no such ones, out of bounds, it is so.");
        Doc.none(world, "hold -1 0 1", "hold 2 0 1", "hold MIN 0 1", "hold MAX 0 1", "hold 0 -1 1",
                "hold 0 2 1", "hold 0 4 1", "hold 0 MIN 1", "hold 0 MAX 1");
        Doc.none(world, "hold 0 0 -1", "hold 0 0 61", "hold 0 0 MIN", "hold 0 0 MAX");
        Doc.none(world, "hold 0 0 5", "hold 0 1 6", "hold 1 0 7", "hold 1 1 8");
        Doc.none(HOUSE, "hold 0 0 1");
        Doc.none(ASSET, "hold 0 0 1");
        Doc.says(Doc.TERMS, "HELD of an ASSET: all HOLDINGS of it.");
        Doc.answers(world, "ofAsset 0 2 = 12", "ofAsset 1 2 = 14", "count 8 = 26");
        Doc.answers(ASSET + "house 0 0 0 1 0 60;".repeat(6), "ofAsset 0 2 = 360", "count 8 = 360");
        Doc.answers(ASSET, "ofAsset 0 2 = 0", "count 8 = 0");
    }

    private static void loan() {
        Doc.says(Doc.TERMS, "A LOAN from each HOUSE to each other one (0 .. 999; 0 at first): what "
                + "the first one owes the second one.");
        Doc.answers(HOUSE + HOUSE, "owes 0 1 = 0", "owes 1 0 = 0");
        Doc.does(HOUSE + HOUSE, "loan 0 1 999 = 0", HOUSE + HOUSE + "loan 0 1 999;");
        Doc.does(HOUSE + HOUSE + "loan 0 1 999;", "loan 0 1 0 = 999", HOUSE + HOUSE);
        Doc.answers(HOUSE + HOUSE + "loan 0 1 5;", "worth 0 0 = -5", "worth 0 1 = 5");
        Doc.says(9, "A LOAN (from one HOUSE to another) is another one: which it was;");
        Doc.does(HOUSE + HOUSE + "loan 0 1 5;loan 1 0 6;", "loan 1 0 7 = 6",
                HOUSE + HOUSE + "loan 0 1 5;loan 1 0 7;");
        Doc.does(HOUSE.repeat(6), "loan 5 4 1 = 0", HOUSE.repeat(6) + "loan 5 4 1;");
        Doc.does(HOUSE.repeat(6), "loan 0 5 1 = 0", HOUSE.repeat(6) + "loan 0 5 1;");
        Doc.says(9, "NONE: no such ones, both are one, out of bounds, it is so.");
        String world = HOUSE + HOUSE + "loan 0 1 5;";
        Doc.none(world, "loan -1 0 1", "loan 2 0 1", "loan 0 -1 1", "loan 0 2 1", "loan MIN 0 1",
                "loan MAX 0 1", "loan 0 MIN 1", "loan 0 MAX 1", "loan 2 2 1", "loan -1 -1 1");
        Doc.none(world, "loan 0 0 1", "loan 1 1 1", "loan 1 1 0");
        Doc.none(world, "loan 0 1 -1", "loan 0 1 1000", "loan 0 1 MIN", "loan 0 1 MAX");
        Doc.none(world, "loan 0 1 5", "loan 1 0 0");
    }

    private static void curve() {
        Doc.says(10, "BASE (what 0), SLOPE (1) of an ASSET is another one: which it was;");
        String world = "asset 10 1;asset 20 2;";
        Doc.does(world, "curve 0 0 1 = 10", "asset 1 1;asset 20 2;");
        Doc.does(world, "curve 1 0 200 = 20", "asset 10 1;asset 200 2;");
        Doc.does(world, "curve 0 1 0 = 1", "asset 10 0;asset 20 2;");
        Doc.does(world, "curve 1 1 9 = 2", "asset 10 1;asset 20 9;");
        Doc.does(ASSET.repeat(4), "curve 3 0 5 = 1", ASSET.repeat(3) + "asset 5 0;");
        Doc.says(10, "NONE: no such ones, out of bounds, it is so.");
        Doc.none(world, "curve -1 0 5", "curve 2 0 5", "curve 4 0 5", "curve MIN 0 5",
                "curve MAX 0 5", "curve 0 -1 5", "curve 0 2 5", "curve 0 MIN 5", "curve 0 MAX 5");
        Doc.none(world, "curve 0 0 0", "curve 0 0 201", "curve 0 0 -1", "curve 0 1 -1",
                "curve 0 1 10", "curve 0 0 MIN", "curve 0 0 MAX", "curve 0 1 MIN", "curve 0 1 MAX");
        Doc.none(world, "curve 0 0 10", "curve 1 0 20", "curve 0 1 1", "curve 1 1 2");
        Doc.none("", "curve 0 0 5");
    }

    private static void lay() {
        Doc.says(Doc.TERMS, "SHELVES 0, 1, 2 of 4 places each (0 .. 3):");
        Doc.does(ASSET + "cap 0 5;".repeat(3), "lay 0 0 0 6 = 3",
                ASSET + "cap 0 5;".repeat(3) + "cap 0 6;");
        Doc.does(ASSET + "shock 0 5;".repeat(3), "lay 1 1 0 6 = 3",
                ASSET + "shock 0 5;".repeat(3) + "shock 0 6;");
        Doc.does(ASSET + "|lay 2 0 0 5|lay 2 1 0 5|lay 2 0 0 5", "lay 2 1 0 6 = 3",
                ASSET + "|lay 2 0 0 5|lay 2 1 0 5|lay 2 0 0 5|lay 2 1 0 6");
        Doc.says(Doc.TERMS, "SHELF 0 takes CAPS alone, 1 takes SHOCKS alone, 2 takes both.");
        Doc.does(ASSET, "lay 0 0 0 5 = 0", ASSET + "cap 0 5;");
        Doc.does(ASSET, "lay 1 1 0 5 = 0", ASSET + "shock 0 5;");
        Doc.does(ASSET, "lay 2 0 0 5 = 0", ASSET + "|lay 2 0 0 5");
        Doc.does(ASSET, "lay 2 1 0 5 = 0", ASSET + "|lay 2 1 0 5");
        Doc.answers(ASSET, "lay 0 1 0 5 = -2", "lay 1 0 0 5 = -2");
        Doc.says(11, "A CAP (kind 0), a SHOCK (1) of an ASSET is laid on a SHELF, behind the "
                + "others: its place;");
        Doc.does(ASSET + ASSET + "cap 0 5;", "lay 0 0 1 0 = 1", ASSET + ASSET + "cap 0 5;cap 1 0;");
        Doc.does(ASSET + ASSET + "cap 0 5;cap 0 7;", "lay 0 0 1 360 = 2",
                ASSET + ASSET + "cap 0 5;cap 0 7;cap 1 360;");
        Doc.does(ASSET + ASSET + "shock 0 5;", "lay 1 1 1 200 = 1",
                ASSET + ASSET + "shock 0 5;shock 1 200;");
        Doc.does(ASSET, "lay 1 1 0 0 = 0", ASSET + "shock 0 0;");
        Doc.does(ASSET.repeat(4), "lay 2 1 3 200 = 0", ASSET.repeat(4) + "|lay 2 1 3 200");
        Doc.does(ASSET.repeat(4), "lay 2 0 3 360 = 0", ASSET.repeat(4) + "|lay 2 0 3 360");
        // one that is laid already can be laid again
        Doc.does(ASSET + "cap 0 5;", "lay 0 0 0 5 = 1", ASSET + "cap 0 5;cap 0 5;");
        Doc.does(ASSET + "|lay 2 1 0 7|lay 2 0 0 8|lift 2 0|lift 2 0", "lay 2 0 0 9 = 0",
                ASSET + "|lay 2 0 0 9");
    }

    private static void layRefused() {
        String full = ASSET + "cap 0 5;".repeat(4) + "shock 0 5;".repeat(4)
                + "|lay 2 0 0 5|lay 2 1 0 5|lay 2 0 0 5|lay 2 1 0 5";
        Doc.says(11, "-2, and nothing happens: the SHELF does not take its kind;");
        Doc.answers(ASSET, "lay 0 1 0 0 = -2", "lay 0 1 0 200 = -2", "lay 1 0 0 0 = -2",
                "lay 1 0 0 360 = -2");
        Doc.says(11, "-3: it is full (-2 goes ahead);");
        Doc.answers(full, "lay 0 0 0 5 = -3", "lay 1 1 0 5 = -3", "lay 2 0 0 5 = -3",
                "lay 2 1 0 5 = -3", "lay 0 1 0 5 = -2", "lay 1 0 0 5 = -2");
        Doc.says(11, "NONE (ahead of both): no such SHELF, kind, ASSET, out of bounds.");
        Doc.none(ASSET, "lay -1 0 0 5", "lay 3 0 0 5", "lay 3 1 0 5", "lay MIN 0 0 5",
                "lay MAX 0 0 5", "lay 2 -1 0 5", "lay 2 2 0 5", "lay 0 -1 0 5", "lay 1 2 0 5",
                "lay 2 MIN 0 5", "lay 2 MAX 0 5", "lay 0 0 -1 5", "lay 0 0 1 5", "lay 0 0 4 5",
                "lay 0 0 MIN 5", "lay 0 0 MAX 5", "lay 0 0 0 -1", "lay 0 0 0 361",
                "lay 1 1 0 -1", "lay 1 1 0 201", "lay 2 0 0 361", "lay 2 1 0 201",
                "lay 2 0 0 MIN", "lay 2 1 0 MAX");
        // ahead of -2
        Doc.none(ASSET, "lay 0 1 1 5", "lay 0 1 0 201", "lay 0 1 0 -1", "lay 1 0 1 5",
                "lay 1 0 0 361", "lay 1 0 0 -1");
        // ahead of -3
        Doc.none(full, "lay 0 0 1 5", "lay 0 0 0 361", "lay 1 1 1 5", "lay 1 1 0 201",
                "lay 2 2 0 5", "lay 2 0 1 5", "lay 2 1 0 -1", "lay 3 0 0 5");
        Doc.none("", "lay 0 0 0 5", "lay 1 1 0 5", "lay 2 0 0 5", "lay 0 1 0 5");
    }

    private static void lift() {
        Doc.says(12, "What lies at a place of a SHELF goes (those behind it are one place less): "
                + "how many are left there;");
        String world = ASSET + ASSET + "cap 0 1;cap 1 2;cap 0 3;cap 1 4;shock 0 5;shock 1 6;"
                + "|lay 2 0 1 7|lay 2 1 0 8";
        String assets = ASSET + ASSET;
        String shocks = "shock 0 5;shock 1 6;";
        String both = "|lay 2 0 1 7|lay 2 1 0 8";
        Doc.does(world, "lift 0 0 = 3", assets + "cap 1 2;cap 0 3;cap 1 4;" + shocks + both);
        Doc.does(world, "lift 0 1 = 3", assets + "cap 0 1;cap 0 3;cap 1 4;" + shocks + both);
        Doc.does(world, "lift 0 2 = 3", assets + "cap 0 1;cap 1 2;cap 1 4;" + shocks + both);
        Doc.does(world, "lift 0 3 = 3", assets + "cap 0 1;cap 1 2;cap 0 3;" + shocks + both);
        String caps = "cap 0 1;cap 1 2;cap 0 3;cap 1 4;";
        Doc.does(world, "lift 1 0 = 1", assets + caps + "shock 1 6;" + both);
        Doc.does(world, "lift 1 1 = 1", assets + caps + "shock 0 5;" + both);
        Doc.does(world, "lift 2 0 = 1", assets + caps + shocks + "|lay 2 1 0 8");
        Doc.does(ASSET + "cap 0 1;", "lift 0 0 = 0", ASSET);
        String full = ASSET + "|lay 2 0 0 1|lay 2 1 0 2|lay 2 0 0 3|lay 2 1 0 4";
        Doc.does(full, "lift 2 0 = 3", ASSET + "|lay 2 1 0 2|lay 2 0 0 3|lay 2 1 0 4");
        Doc.does(full, "lift 2 1 = 3", ASSET + "|lay 2 0 0 1|lay 2 0 0 3|lay 2 1 0 4");
        Doc.does(full, "lift 2 2 = 3", ASSET + "|lay 2 0 0 1|lay 2 1 0 2|lay 2 1 0 4");
        Doc.does(full, "lift 2 3 = 3", ASSET + "|lay 2 0 0 1|lay 2 1 0 2|lay 2 0 0 3");
        Doc.says(12, "NONE: no such ones.");
        Doc.none(world, "lift -1 0", "lift 3 0", "lift MIN 0", "lift MAX 0", "lift 0 -1",
                "lift 0 4", "lift 1 2", "lift 1 3", "lift 2 2", "lift 2 4", "lift 0 MIN",
                "lift 0 MAX");
        Doc.none("", "lift 0 0", "lift 1 0", "lift 2 0");
        // a place that was emptied
        Doc.none(ASSET + "cap 0 1;|lift 0 0", "lift 0 0");
    }

    private static void net() {
        Doc.says(13, "LOANS of two HOUSES to each other both become less by the lesser of them: by "
                + "how much;");
        String houses = HOUSE.repeat(3);
        Doc.does(houses + "loan 0 1 30;loan 0 2 9;loan 1 0 40;loan 2 1 9;", "net 0 1 = 30",
                houses + "loan 0 2 9;loan 1 0 10;loan 2 1 9;");
        Doc.does(houses + "loan 0 1 40;loan 1 0 30;", "net 0 1 = 30", houses + "loan 0 1 10;");
        Doc.does(houses + "loan 0 1 40;loan 1 0 30;", "net 1 0 = 30", houses + "loan 0 1 10;");
        Doc.does(houses + "loan 1 2 7;loan 2 1 7;", "net 2 1 = 7", houses);
        Doc.does(houses + "loan 0 2 999;loan 2 0 999;", "net 0 2 = 999", houses);
        Doc.does(houses + "loan 0 2 999;loan 2 0 1;", "net 0 2 = 1", houses + "loan 0 2 998;");
        Doc.says(13, "NONE, and nothing happens: no such ones, both are one, one of the LOANS is "
                + "0.");
        String world = houses + "loan 0 1 5;loan 1 0 5;loan 1 2 5;";
        Doc.none(world, "net -1 0", "net 0 -1", "net 3 0", "net 0 3", "net MIN 0", "net 0 MAX",
                "net 3 3");
        Doc.none(world, "net 0 0", "net 1 1", "net 2 2");
        Doc.none(world, "net 1 2", "net 2 1", "net 0 2", "net 2 0");
    }

    private static void mergeThings() {
        Doc.says(14, "The second HOUSE becomes part of the first one: CASH, DEBT, FLOOR are those "
                + "of both (9999 at most each), HOLDINGS (60 at most each), LOANS from and to "
                + "others (999 at most each); LOANS between them go; STEP, WAY are the first "
                + "one's;");
        Doc.does("house 5000 5000 5000 4 1;house 4999 4999 4999 9 0;", "merge 0 1 = 0",
                "house 9999 9999 9999 4 1;");
        Doc.does("house 5000 5000 5000 4 1;house 5000 4998 0 9 0;", "merge 0 1 = 0",
                "house 9999 9998 5000 4 1;");
        Doc.does("house 9998 5000 5000 4 1;house 0 5000 5000 9 0;", "merge 0 1 = 0",
                "house 9998 9999 9999 4 1;");
        Doc.does("house 9999 9999 9999 99 0;house 9999 9999 9999 1 1;", "merge 0 1 = 0",
                "house 9999 9999 9999 99 0;");
        Doc.does(ASSET.repeat(4) + "house 0 0 0 1 0 30 30 60 0;house 0 0 0 1 0 30 31 60 0;",
                "merge 0 1 = 0", ASSET.repeat(4) + "house 0 0 0 1 0 60 60 60 0;");
        Doc.does(ASSET + "house 0 0 0 1 0 29;house 0 0 0 1 0 30;", "merge 0 1 = 0",
                ASSET + "house 0 0 0 1 0 59;");
        Doc.does(HOUSE.repeat(5) + "loan 0 2 500;loan 1 2 499;loan 0 3 500;loan 1 3 500;"
                + "loan 2 0 500;loan 2 1 498;loan 3 0 999;loan 3 1 999;loan 0 1 7;loan 1 0 8;"
                + "loan 1 4 9;loan 4 0 6;loan 2 3 5;", "merge 0 1 = 0", HOUSE.repeat(4)
                + "loan 0 1 999;loan 0 2 999;loan 0 3 9;loan 1 0 998;loan 1 2 5;loan 2 0 999;"
                + "loan 3 0 6;");
        Doc.does(HOUSE.repeat(4) + "loan 1 0 1;loan 2 0 2;loan 0 1 3;loan 0 2 4;loan 1 3 5;"
                + "loan 3 2 6;loan 1 2 7;loan 2 1 8;", "merge 2 1 = 1",
                HOUSE.repeat(3) + "loan 0 1 7;loan 1 0 3;loan 1 2 5;loan 2 1 6;");
        Doc.answers(HOUSE + HOUSE + "loan 0 1 7;loan 1 0 8;|merge 0 1", "owes 0 0 = 0",
                "of 0 6 = 0", "of 0 7 = 0", "worth 0 0 = 0");
        Doc.does(ASSET.repeat(4) + "house 0 0 0 1 0 1 2 3 4;house 0 0 0 1 0 5 6 7 8;"
                + "house 0 0 0 1 0 9 10 11 12;house 0 0 0 1 0 13 14 15 16;", "merge 0 2 = 0",
                ASSET.repeat(4) + "house 0 0 0 1 0 10 12 14 16;house 0 0 0 1 0 5 6 7 8;"
                + "house 0 0 0 1 0 13 14 15 16;");
    }

    private static void mergeNumbers() {
        Doc.says(14, "then the second one goes (numbers above it are one less): which number the "
                + "first one has then;");
        String six = "house 1 0 0 1 0;house 2 0 0 1 0;house 3 0 0 1 0;house 4 0 0 1 0;"
                + "house 5 0 0 1 0;house 6 0 0 1 0;loan 4 5 9;";
        Doc.does(six, "merge 0 5 = 0", "house 7 0 0 1 0;house 2 0 0 1 0;house 3 0 0 1 0;"
                + "house 4 0 0 1 0;house 5 0 0 1 0;loan 4 0 9;");
        Doc.does(six, "merge 5 0 = 4", "house 2 0 0 1 0;house 3 0 0 1 0;house 4 0 0 1 0;"
                + "house 5 0 0 1 0;house 7 0 0 1 0;loan 3 4 9;");
        Doc.does(six, "merge 2 3 = 2", "house 1 0 0 1 0;house 2 0 0 1 0;house 7 0 0 1 0;"
                + "house 5 0 0 1 0;house 6 0 0 1 0;loan 3 4 9;");
        Doc.does(six, "merge 3 2 = 2", "house 1 0 0 1 0;house 2 0 0 1 0;house 7 0 0 1 0;"
                + "house 5 0 0 1 0;house 6 0 0 1 0;loan 3 4 9;");
        Doc.does(HOUSE + "house 1 2 3 4 1;", "merge 1 0 = 0", "house 1 2 3 4 1;");
        Doc.says(14, "NONE, and nothing happens: no such ones, both are one.");
        Doc.none(HOUSE + HOUSE, "merge -1 0", "merge 0 -1", "merge 2 0", "merge 0 2", "merge MIN 0",
                "merge 0 MAX", "merge 2 2", "merge -1 -1");
        Doc.none(HOUSE + HOUSE, "merge 0 0", "merge 1 1");
        Doc.none("", "merge 0 0", "merge 0 1");
    }

    private static void close() {
        Doc.says(15, "A HOUSE goes, with LOANS from and to it (numbers above it are one less): how "
                + "many there are;");
        String world = ASSET + "house 1 0 0 1 0 5;house 2 0 0 2 1 6;house 3 0 0 3 0 7;loan 0 1 4;"
                + "loan 0 2 5;loan 1 0 6;loan 1 2 7;loan 2 0 8;loan 2 1 9;";
        Doc.does(world, "close 0 = 2", ASSET + "house 2 0 0 2 1 6;house 3 0 0 3 0 7;loan 0 1 7;"
                + "loan 1 0 9;");
        Doc.does(world, "close 1 = 2", ASSET + "house 1 0 0 1 0 5;house 3 0 0 3 0 7;loan 0 1 5;"
                + "loan 1 0 8;");
        Doc.does(world, "close 2 = 2", ASSET + "house 1 0 0 1 0 5;house 2 0 0 2 1 6;loan 0 1 4;"
                + "loan 1 0 6;");
        Doc.does("house 1 2 3 4 1;", "close 0 = 0", "");
        Doc.does(HOUSE.repeat(5) + "house 9 0 0 1 0;", "close 0 = 5",
                HOUSE.repeat(4) + "house 9 0 0 1 0;");
        Doc.does(HOUSE.repeat(6), "close 5 = 5", HOUSE.repeat(5));
        Doc.says(15, "NONE: no such one.");
        Doc.none(world, "close -1", "close 3", "close 6", "close MIN", "close MAX");
        Doc.none("", "close 0");
    }

    private static void live() {
        Doc.says(16, "The SPIRAL is LIVED: how many pieces were SOLD;");
        Doc.says(Doc.TERMS, "LIVED: the LEAST STATE comes about:");
        // nothing to sell in CALM but one piece: the price 9 is below its FLOOR then, too
        Doc.does("asset 10 1;house 20 0 31 5 0 1;", "live = 1", "asset 9 1;house 29 0 31 5 0 0;");
        // 6 HOUSES fall with all: 360 pieces of each ASSET
        String fall = "house 0 9999 0 1 0 60 60;".repeat(6);
        Doc.does("asset 1 0;asset 9 1;" + fall, "live = 720",
                "asset 1 0;asset 1 1;" + "house 0 0 0 1 0 0 0;".repeat(6));
        // GREATEST would be another STATE: nothing of it comes about
        Doc.none("asset 20 2;house 0 50 9 1 0 3;house 0 50 9 1 0 3;", "live");
        Doc.says(16, "NONE, and nothing happens: neither is anything SOLD nor any HOUSE FALLEN in "
                + "LEAST.");
        Doc.none("", "live");
        Doc.none("asset 10 1;cap 0 5;", "live");
        Doc.none("asset 10 1;house 5 35 0 1 0 3;", "live");
        Doc.none("asset 10 1;house 5 5 30 1 0 3;", "live");
        // it MUST SELL, but a CAP of 0 halts that
        Doc.none("asset 10 1;house 5 5 90 1 0 3;cap 0 0;", "live");
        Doc.does("asset 10 1;house 5 36 0 1 0 3;cap 0 0;", "live = 0",
                "asset 10 1;house 0 0 0 1 0 0;cap 0 0;");
        Doc.does("house 0 1 0 7 1;", "live = 0", "house 0 0 0 7 1;");
        Doc.does("asset 10 0;house 5 5 31 1 0 3;", "live = 1", "asset 10 0;house 15 5 31 1 0 2;");
    }

    private static void liveSells() {
        Doc.says(Doc.TERMS, "HOUSE by HOUSE sells what it MUST SELL in it, of each ASSET as far as "
                + "SOLD of all goes;");
        String two = "house 0 0 33 1 0 3;";
        Doc.does("asset 10 0;" + two + two + "cap 0 4;", "live = 4",
                "asset 10 0;house 30 0 33 1 0 0;house 10 0 33 1 0 2;cap 0 4;");
        Doc.does("asset 10 0;" + two + two + "cap 0 3;", "live = 3",
                "asset 10 0;house 30 0 33 1 0 0;house 0 0 33 1 0 3;cap 0 3;");
        Doc.does("asset 10 0;" + two + two + "cap 0 1;", "live = 1",
                "asset 10 0;house 10 0 33 1 0 2;house 0 0 33 1 0 3;cap 0 1;");
        Doc.does("asset 10 0;" + two + two + "cap 0 6;", "live = 6",
                "asset 10 0;house 30 0 33 1 0 0;house 30 0 33 1 0 0;cap 0 6;");
        String one = "house 0 0 31 1 0 3;";
        Doc.does("asset 10 0;" + one.repeat(3), "live = 3",
                "asset 10 0;" + "house 10 0 31 1 0 2;".repeat(3));
        // 3 of 4 pieces, by WAY; the CAP of one ASSET does not shift them to the other one
        String caps = "cap 0 1;";
        Doc.does("asset 10 0;asset 10 0;house 0 0 43 1 0 2 2;" + caps, "live = 2",
                "asset 10 0;asset 10 0;house 20 0 43 1 0 1 1;" + caps);
        Doc.does("asset 10 0;asset 10 0;house 0 0 43 1 1 2 2;" + caps, "live = 3",
                "asset 10 0;asset 10 0;house 30 0 43 1 1 1 0;" + caps);
        Doc.says(Doc.TERMS, "CASH is as many times PRICE in LEAST more (9999 at most), HOLDINGS "
                + "are less;");
        Doc.does("asset 10 0;house 9989 9999 1 1 0 1;", "live = 1",
                "asset 10 0;house 9999 9999 1 1 0 0;");
        Doc.does("asset 10 0;house 9990 9999 2 1 0 1;", "live = 1",
                "asset 10 0;house 9999 9999 2 1 0 0;");
        Doc.does("asset 10 0;house 9988 9998 1 1 0 1;", "live = 1",
                "asset 10 0;house 9998 9998 1 1 0 0;");
        Doc.does("asset 200 0;house 5000 9999 9999 1 0 60;", "live = 60",
                "asset 200 0;house 9999 9999 9999 1 0 0;");
        // a PRICE of 0 brings nothing
        Doc.does("asset 10 0;house 5 0 9 1 0 3;shock 0 10;", "live = 3",
                "asset 10 0;house 5 0 9 1 0 0;shock 0 10;");
    }

    private static void liveCloses() {
        Doc.says(Doc.TERMS, "then FALLEN HOUSES are closed: CASH, DEBT, FLOOR, HOLDINGS, LOANS "
                + "from and to them 0 (STEP, WAY stay);");
        Doc.does("asset 10 0;house 3 99 7 8 1 2;house 50 5 6 7 0 1;house 9 8 0 6 1 0;loan 0 1 5;"
                + "loan 1 0 4;loan 1 2 3;loan 2 1 2;", "live = 2", "asset 10 0;house 0 0 0 8 1 0;"
                + "house 50 5 6 7 0 1;house 9 8 0 6 1 0;loan 1 2 3;loan 2 1 2;");
        // what a CAP leaves of a FALLEN HOUSE's pieces goes, too
        Doc.does("asset 10 0;house 3 99 7 8 1 5;cap 0 2;", "live = 2",
                "asset 10 0;house 0 0 0 8 1 0;cap 0 2;");
        Doc.says(Doc.TERMS, "then BASE of each ASSET is SLOPE times SOLD less (1 at least).");
        String fallen = "house 0 9999 0 1 0 ";
        Doc.does("asset 11 9;" + fallen + "1;", "live = 1", "asset 2 9;house 0 0 0 1 0 0;");
        Doc.does("asset 10 9;" + fallen + "1;", "live = 1", "asset 1 9;house 0 0 0 1 0 0;");
        Doc.does("asset 9 9;" + fallen + "1;", "live = 1", "asset 1 9;house 0 0 0 1 0 0;");
        Doc.does("asset 1 9;" + fallen + "60;", "live = 60", "asset 1 9;house 0 0 0 1 0 0;");
        Doc.does("asset 150 2;asset 100 1;asset 50 0;asset 40 2;" + fallen + "60 0 10 5;",
                "live = 75", "asset 30 2;asset 100 1;asset 50 0;asset 30 2;"
                + "house 0 0 0 1 0 0 0 0 0;");
        // neither SHOCKS nor what a CAP halts make BASE less
        Doc.does("asset 20 2;" + fallen + "9;cap 0 4;shock 0 15;", "live = 4",
                "asset 12 2;house 0 0 0 1 0 0;cap 0 4;shock 0 15;");
    }

    private static void undo() {
        Doc.says(17, "The latest ACT is taken back: how many more can be;");
        Thing t = Thing.of("|asset 1 0|asset 2 0|asset 3 0");
        Doc.due("undo", t.call("undo"), 2);
        Doc.dueText("undone", t.things(), "asset 1 0;asset 2 0;");
        Doc.due("another ACT then", t.call("asset 4 0"), 2);
        Doc.due("acts", t.call("count 2"), 3);
        Doc.due("undo", t.call("undo"), 2);
        Doc.due("undo", t.call("undo"), 1);
        Doc.due("undo", t.call("undo"), 0);
        Doc.dueText("all undone", t.whole(), " acts 0 tape 0");
        // the tape is no part of it
        t = Thing.of("|feed 0 0 0 0 0|asset 1 0|back 5");
        Doc.due("undo", t.call("undo"), 0);
        Doc.dueText("undone", t.whole(), " acts 0 tape 15");
        Doc.says(17, "NONE: none can.");
        Doc.none("", "undo");
        Doc.none("asset 1 0;", "undo");
        Doc.none("|asset 1 0|undo", "undo");
    }

    private static void undoLatest() {
        Doc.says(Doc.TERMS, "ACTS, of which the latest 12 can be undone (text() forgets them).");
        for (int acts = 11; acts <= 40; acts++) {
            Thing t = Thing.of("asset 1 0;");
            for (int i = 1; i <= acts; i++) {
                t.call("curve 0 0 " + (100 + i));
            }
            int most = Math.min(12, acts);
            Doc.due("acts", t.call("count 2"), most);
            for (int i = 1; i <= most; i++) {
                Doc.due("undo", t.call("undo"), most - i);
                Doc.due("BASE", t.call("ofAsset 0 0"), acts == i ? 1 : 100 + acts - i);
            }
            Doc.due("undo", t.call("undo"), -1);
            Doc.due("BASE stays", t.call("ofAsset 0 0"), acts == most ? 1 : 100 + acts - most);
        }
        // ACTS and undos by turns, so that what is kept goes round often
        Thing t = Thing.of("asset 1 0;");
        int base = 1;
        for (int i = 0; i < 100; i++) {
            Doc.due("act", t.call("curve 0 0 " + (base + 1)), base);
            Doc.due("act", t.call("curve 0 0 " + (base + 2)), base + 1);
            Doc.due("undo", t.call("undo"), Math.min(11, base));
            base++;
            Doc.due("BASE", t.call("ofAsset 0 0"), base);
        }
        Doc.none("|asset 1 0|" + HOUSE, "undo");
        // what is refused is no ACT, and a FAULT forgets none
        t = Thing.of("|asset 1 0|house 5 5");
        t.call("asset 0 0");
        t.call("set 0 0 5");
        t.call("net 0 0");
        t.call("live");
        t.call("lay 0 1 0 5");
        t.tell("x");
        t.call("text");
        Doc.due("acts", t.call("count 2"), 2);
        Doc.due("undo", t.call("undo"), 1);
        Doc.dueText("undone", t.things(), "asset 1 0;");
    }
}
