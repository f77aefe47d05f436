/** Floats: promises 35 to 39, and the terms of part III. */
final class FloatSentences {
    private static final String SPIRAL = StateSentences.SPIRAL;

    private FloatSentences() {
    }

    static void all() {
        ratioTerm();
        indexTerm();
        dropTerm();
        moodTerm();
        index();
        drop();
        ratio();
        mood();
        hundredths();
    }

    private static int bits(float x) {
        return Float.floatToIntBits(x);
    }

    private static long bits(double x) {
        return Double.doubleToLongBits(x);
    }

    private static void ratioTerm() {
        Doc.says(Doc.TERMS, "RATIO of an ASSET in a STATE (float): its PRICE by that in CALM, both "
                + "as floats (1, if that is 0).");
        Doc.answer(SPIRAL, "ratio 1 0", bits(11f / 20f));
        Doc.answer(SPIRAL, "ratio 0 0", bits(1f));
        String fallen = "house 0 9999 0 1 0 4;";
        Doc.answer("asset 4 1;" + fallen, "ratio 1 0", bits(0f));
        Doc.answer("asset 3 1;" + fallen, "ratio 1 0", bits(0f));
        Doc.answer("asset 5 1;" + fallen, "ratio 1 0", bits(1f / 5f));
        Doc.answer("asset 9 1;shock 0 8;" + fallen, "ratio 1 0", bits(0f));
        Doc.answer("asset 9 1;shock 0 9;" + fallen, "ratio 1 0", bits(1f));
        Doc.answer("asset 9 1;shock 0 10;" + fallen, "ratio 1 0", bits(1f));
        Doc.answer("asset 9 0;" + fallen, "ratio 1 0", bits(1f));
        // each PRICE by each: SLOPE 1, so many SOLD, BASE so much
        for (int base = 1; base <= 200; base++) {
            Doc.answer("asset " + base + " 1;house 0 9999 0 1 0 13;cap 0 " + base % 14 + ";",
                    "ratio 1 0", bits((float) Math.max(0, base - base % 14) / (float) base));
        }
    }

    private static void indexTerm() {
        Doc.says(Doc.TERMS, "INDEX (float): from 0 on, by ASSETS, plus RATIO times HELD (as a "
                + "float), then by HELD of all (as a float); 1, if that is 0.");
        Doc.answer("", "index 1", bits(1f));
        Doc.answer("asset 9 1;house 0 1 0 1 0;", "index 1", bits(1f));
        Doc.answer("asset 9 1;shock 0 9;", "index 3", bits(1f));
        Doc.answer("asset 9 9;house 0 999 0 1 0 1;", "index 1", bits(0f));
        Doc.answer(SPIRAL, "index 1", bits(11f / 20f * 9f / 9f));
        // an ASSET that nobody holds does not count; one that was worth 0 in CALM counts as 1
        Doc.answer("asset 9 1;asset 7 1;house 0 999 0 1 0 0 2;", "index 1",
                bits(5f / 7f * 2f / 2f));
        Doc.answer("asset 9 1;asset 7 1;shock 0 9;house 0 999 0 1 0 3 2;", "index 1",
                bits((1f * 3f + 5f / 7f * 2f) / 5f));
        // the order of the sums shows in the last bits
        float sum = 6f / 7f * 1f;
        sum = sum + 8f / 11f * 3f;
        sum = sum + 8f / 13f * 5f;
        sum = sum + 10f / 17f * 7f;
        Doc.answer("asset 7 1;asset 11 1;asset 13 1;asset 17 1;house 0 9999 0 1 0 1 3 5 7;",
                "index 1", bits(sum / 16f));
        Doc.answer("asset 200 0;".repeat(4) + "house 0 0 0 1 0 60 60 60 60;".repeat(6), "index 3",
                bits(1f));
    }

    private static void dropTerm() {
        Doc.says(Doc.TERMS, "DROP: 1 less INDEX, times 1000, in floats, made an int.");
        Doc.answers(SPIRAL, "drop 0 = 0", "drop 1 = " + (int) ((1f - 11f / 20f) * 1000f));
        Doc.answers("asset 9 9;house 0 999 0 1 0 1;", "drop 1 = 1000", "drop 0 = 0");
        Doc.answers("asset 3 1;house 0 999 0 1 0 1;",
                "drop 1 = " + (int) ((1f - 2f / 3f * 1f / 1f) * 1000f), "drop 1 = 333");
        Doc.answers("asset 3 1;house 0 999 0 1 0 2;", "drop 1 = 666");
        Doc.answers("asset 200 1;house 0 9999 0 1 0 1;",
                "drop 1 = " + (int) ((1f - 199f / 200f * 1f / 1f) * 1000f));
        Doc.answers("", "drop 0 = 0", "drop 3 = 0");
        for (int base = 2; base <= 200; base++) {
            float index = (float) (base - 1) / (float) base;
            Doc.answer("asset " + base + " 1;house 0 999 0 1 0 1;", "drop 1",
                    (int) ((1f - index) * 1000f));
        }
    }

    private static void moodTerm() {
        Doc.says(Doc.TERMS, "MOOD (double): from 1 on, ROUND by ROUND from 1 to that at which "
                + "LEAST is come to first: MOOD becomes half of it and half of INDEX (made a "
                + "double) together: each by 2, then added.");
        double mood = 1.0;
        for (float price : new float[] {18f, 15f, 11f}) {
            mood = mood / 2 + (double) (price / 20f * 9f / 9f) / 2;
        }
        Doc.answer(SPIRAL, "mood", bits(mood));
        Doc.answer("", "mood", bits(1.0));
        Doc.answer(StateSentences.TWO, "mood", bits(1.0));
        // a ROUND in which but FALLEN changes counts, too: two of INDEX 1, then none more
        Doc.answer("house 0 1 0 1 0;house 0 1 0 1 0;loan 0 1 1;", "mood", bits(1.0));
        // INDEX 0 in three ROUNDS, as one by one falls that the one ahead owes
        String zero = "asset 9 9;house 0 99 0 1 0 3;house 0 1 0 1 0;house 0 1 0 1 0;loan 0 1 1;"
                + "loan 1 2 1;";
        Doc.answers(zero, "rounds false = 2");
        Doc.answer(zero + "|loan 1 2 2|set 1 0 2", "rounds false", 3);
        Doc.answer(zero + "|loan 1 2 2|set 1 0 2", "mood", bits(0.125));
    }

    private static void index() {
        Doc.says(35, "INDEX of a STATE, as the bits of a float.");
        Doc.answer(SPIRAL, "index 0", bits(1f));
        Doc.answer(SPIRAL, "index 1", 1057803469);
        Doc.answer(StateSentences.TWO, "index 1", bits(1f));
        Doc.answer(StateSentences.TWO, "index 2", bits(8f / 20f * 6f / 6f));
        Doc.answer(StateSentences.TWO, "index 3", bits(8f / 20f * 6f / 6f));
        Doc.says(35, "NONE: no such STATE.");
        Doc.none(SPIRAL, "index -1", "index 4", "index MIN", "index MAX");
        Doc.none("", "index -1", "index 4");
    }

    private static void drop() {
        Doc.says(36, "DROP of a STATE.");
        int drop = (int) ((1f - 8f / 20f * 6f / 6f) * 1000f);
        Doc.answers(StateSentences.TWO, "drop 0 = 0", "drop 1 = 0", "drop 2 = " + drop,
                "drop 3 = " + drop);
        Doc.says(36, "NONE: no such STATE.");
        Doc.none(SPIRAL, "drop -1", "drop 4", "drop MIN", "drop MAX");
        Doc.none("", "drop -1", "drop 4");
    }

    private static void ratio() {
        Doc.says(37, "RATIO of an ASSET in a STATE, as the bits of a float.");
        String world = "asset 9 1;asset 7 2;house 0 9999 0 1 0 2 3;";
        Doc.answer(world, "ratio 1 0", bits(7f / 9f));
        Doc.answer(world, "ratio 3 1", bits(1f / 7f));
        Doc.says(37, "NONE: no such ones.");
        Doc.none(world, "ratio -1 0", "ratio 4 0", "ratio MIN 0", "ratio MAX 0", "ratio 0 -1",
                "ratio 0 2", "ratio 1 4", "ratio 0 MIN", "ratio 0 MAX");
        Doc.none("", "ratio 0 0", "ratio 1 3");
    }

    private static void mood() {
        Doc.says(38, "MOOD, as the bits of a double.");
        Doc.answer("asset 9 9;house 0 99 0 1 0 3;", "mood", bits(0.5));
        Doc.answer("asset 3 1;house 0 99 0 1 0 1;", "mood",
                bits(1.0 / 2 + (double) (2f / 3f * 1f / 1f) / 2));
        Doc.answer("asset 9 1;", "mood", 4607182418800017408L);
    }

    private static void hundredths() {
        Doc.says(39, "MOOD times 100, made an int.");
        Doc.answers("", "hundredths = 100");
        Doc.answers("asset 9 9;house 0 99 0 1 0 3;", "hundredths = 50");
        Doc.answers("asset 3 1;house 0 99 0 1 0 1;", "hundredths = 83");
        for (int base = 2; base <= 200; base++) {
            float index = (float) (base - 1) / (float) base;
            Doc.answer("asset " + base + " 1;house 0 999 0 1 0 1;", "hundredths",
                    (int) ((1.0 / 2 + (double) index / 2) * 100));
        }
    }
}
