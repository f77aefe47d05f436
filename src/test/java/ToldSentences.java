import java.util.Set;

/** What is told: promises 1 to 4, and the terms of a TEXT. */
final class ToldSentences {
    private static final Set<String> WORDS = Set.of("asset", "house", "loan", "cap", "shock");
    private static final String ASSET = "asset 1 0;";
    private static final String HOUSE = "house 0 0 0 1 0;";

    private ToldSentences() {
    }

    static void all() {
        newObject();
        feed();
        feedTooMuch();
        back();
        text();
        textStays();
        grammar();
        grammarOfParts();
        signs();
        faults();
        faultsOfNumbers();
        faultsOfTooMany();
        faultsOfEnds();
    }

    private static void newObject() {
        Doc.says(1, "No ASSETS, HOUSES; empty SHELVES.");
        Doc.answers("", "count 0 = 0", "count 1 = 0", "count 2 = 0", "count 3 = 0", "count 4 = 0",
                "count 5 = 0", "count 6 = 0", "count 7 = 0", "count 8 = 0", "spell -1 = 0");
        Doc.none("", "of 0 0", "holding 0 0", "owes 0 0", "ofAsset 0 0", "shelf 0 0 0",
                "shelf 1 0 0", "shelf 2 0 0", "lift 0 0", "lift 1 0", "lift 2 0", "close 0",
                "undo");
    }

    /** Twenty bytes, blanks but for one. */
    private static String blanksBut(int place, char sign) {
        StringBuilder all = new StringBuilder(" ".repeat(20));
        all.setCharAt(place, sign);
        return all.toString();
    }

    private static String feedOf(String twenty) {
        StringBuilder call = new StringBuilder("feed");
        for (int i = 0; i < 20; i += 4) {
            int four = twenty.charAt(i) << 24 | twenty.charAt(i + 1) << 16
                    | twenty.charAt(i + 2) << 8 | twenty.charAt(i + 3);
            call.append(' ').append(four);
        }
        return call.toString();
    }

    private static void feed() {
        Doc.says(2, "Twenty bytes, the highest of a first, come behind the tape: how many it has.");
        for (int place = 0; place < 40; place++) {
            Thing t = new Thing();
            String twenty = blanksBut(place % 20, (char) 255);
            Doc.due("feed", t.call(feedOf(place < 20 ? twenty : " ".repeat(20))), 20);
            Doc.due("feed", t.call(feedOf(place < 20 ? " ".repeat(20) : twenty)), 40);
            Doc.due("the byte at " + place, t.call("text"), -4 - place);
        }
        Thing t = new Thing();
        t.call(feedOf("asset 123 4;house 56"));
        t.call(feedOf("78 90 12 34 1 5;    "));
        Doc.due("text of two feeds", t.call("text"), 1);
        Doc.dueText("of two feeds", t.things(), "asset 123 4;house 5678 90 12 34 1 5;");
        t = new Thing();
        Doc.due("bytes of -1 are all 255", t.call("feed -1 -1 -1 -1 -1"), 20);
        Doc.due("text", t.call("text"), -4);
        t.call("feed MIN 0 0 0 0");
        Doc.due("text of bytes 128, 0, ..", t.call("text"), -4);
    }

    private static Thing fedTo(int length) {
        Thing t = new Thing();
        for (int i = 1; i <= (length + 19) / 20; i++) {
            Doc.due("feed", t.call(feedOf(" ".repeat(20))), 20 * i);
        }
        t.call("back " + (20 - length % 20) % 20);
        Doc.due("tape", t.call("count 3"), length);
        return t;
    }

    private static void feedTooMuch() {
        Doc.says(2, "NONE, and nothing comes, if it would have more than 800.");
        for (int length : new int[] {781, 790, 799, 800}) {
            Thing t = fedTo(length);
            Doc.due("feed behind " + length, t.call("feed -1 -1 -1 -1 -1"), -1);
            Doc.due("tape stays", t.call("count 3"), length);
            Doc.due("none of these bytes has come", t.call("text"), 0);
        }
        Thing t = fedTo(780);
        Doc.due("feed to 800", t.call("feed -1 -1 -1 -1 -1"), 800);
        Doc.due("and again", t.call("feed -1 -1 -1 -1 -1"), -1);
        Doc.due("these bytes have come", t.call("text"), -784);
        Doc.due("the tape is empty again", t.call("feed -1 -1 -1 -1 -1"), 20);
    }

    private static void back() {
        Doc.says(3, "The last n bytes of the tape go: how many it has.");
        Thing t = new Thing();
        t.call(feedOf("asset 12 3;ABCDEFGHI"));
        Doc.due("back 0", t.call("back 0"), 20);
        Doc.due("back 8", t.call("back 8"), 12);
        Doc.due("back 1", t.call("back 1"), 11);
        Doc.due("text", t.call("text"), 0);
        Doc.dueText("the first ones stay", t.things(), "asset 12 3;");
        t.call(feedOf("ABCDEFGHIJKLMNOPQRST"));
        Doc.due("back all", t.call("back 20"), 0);
        Doc.due("back 0 of an empty tape", t.call("back 0"), 0);
        Doc.due("a tape that was taken back is the empty TEXT", t.call("text"), 0);
        t = fedTo(800);
        Doc.due("back all 800", t.call("back 800"), 0);
        Doc.says(3, "NONE, and nothing goes, if it has not so many, or n is below 0.");
        Doc.none("", "back 1", "back -1", "back MAX", "back MIN");
        Doc.none("|feed 0 0 0 0 0", "back 21", "back -1", "back -20", "back MAX", "back MIN");
        t = fedTo(800);
        Doc.due("back 801", t.call("back 801"), -1);
        Doc.due("nothing went", t.call("count 3"), 800);
    }

    private static void text() {
        Doc.says(4, "The tape (empty then, behind a FAULT, too) is the TEXT, all anew:");
        Thing t = Thing.of("asset 9 1;house 5 0 0 1 0 3;house 6 0 0 1 0 4;loan 0 1 2;cap 0 9;"
                + "shock 0 1;|lay 2 0 0 5|lay 2 1 0 6|set 0 3 7");
        t.tell("house 1 2 3 4 0;");
        Doc.due("text", t.call("text"), 1);
        Doc.dueText("all anew, no act, no tape", t.whole(), "house 1 2 3 4 0; acts 0 tape 0");
        Doc.due("a FAULT", faultOf(t, "house 1 2 3 4 0;;"), -20);
        Doc.due("the tape is empty", t.call("count 3"), 0);
        Doc.due("the empty tape is the empty TEXT", t.call("text"), 0);
        Doc.dueText("nothing is left", t.whole(), " acts 0 tape 0");
        Doc.says(4, "how many HOUSES;");
        for (int n = 0; n <= 6; n++) {
            Doc.reads(ASSET + HOUSE.repeat(n), ASSET + "house 0 0 0 1 0 0;".repeat(n));
        }
        Doc.says(4, "-4 less its FAULT");
        Doc.fault("^;");
        Doc.fault("  ^x");
        Thing full = new Thing();
        full.tell("asset 1 1" + " ".repeat(791));
        Doc.due("FAULT at 800", full.call("text"), -804);
        full.tell(" ".repeat(799) + "x");
        Doc.due("FAULT at 799", full.call("text"), -803);
    }

    private static long faultOf(Thing t, String text) {
        t.tell(text);
        return t.call("text");
    }

    private static void textStays() {
        Doc.says(4, "and all else stays.");
        Thing t = Thing.of("asset 9 1;|house 5 0|lay 2 0 0 5");
        Doc.due("a FAULT at its end", faultOf(t, "asset 5 5;house 1 1 1 1 1;cap 0 5;shock 0 5"),
                -47);
        Doc.dueText("all else stays", t.whole(),
                "asset 9 1;house 5 0 0 1 0 0;|lay 2 0 0 5 acts 2 tape 0");
        Doc.due("its acts can be undone", t.call("undo"), 1);
        Doc.dueText("undone", t.things(), "asset 9 1;house 5 0 0 1 0 0;");
        Doc.due("and the first one", t.call("undo"), 0);
        Doc.dueText("undone", t.things(), "asset 9 1;");
    }

    private static void grammar() {
        Doc.says(Doc.TERMS, "A TEXT: { asset N N ; | house N N N N N { N } ; | loan N N N ; "
                + "| cap N N ; | shock N N ; }:");
        Doc.reads("", "");
        Doc.reads("asset 7 3;", "asset 7 3;");
        Doc.reads("house 1 2 3 4 1;", "house 1 2 3 4 1;");
        Doc.reads("house 1 2 3 4 1;asset 10 1;shock 0 5;house 5 6 7 8 0 9;cap 0 4;loan 1 0 2;"
                + "asset 11 2;cap 1 3;", "asset 10 1;asset 11 2;house 1 2 3 4 1 0 0;"
                + "house 5 6 7 8 0 9 0;loan 1 0 2;cap 0 4;cap 1 3;shock 0 5;");
        Doc.fault("loan^;");
        Doc.fault("asset 1^;");
        Doc.fault("asset 1 1 ^1;");
        Doc.fault("house 1 2 3 4^;");
        Doc.fault(HOUSE + HOUSE + "loan 0 1^;");
        Doc.fault(HOUSE + HOUSE + "loan 0 1 5 ^5;");
        Doc.fault(ASSET + "cap 0^;");
        Doc.fault(ASSET + "cap 0 1 ^1;");
        Doc.fault(ASSET + "shock 0^;");
        Doc.fault(ASSET + "shock 0 1 ^1;");
    }

    private static void grammarOfParts() {
        Doc.says(Doc.TERMS, "asset: BASE, SLOPE; house: CASH, DEBT, FLOOR, STEP, WAY, HOLDINGS of "
                + "ASSET 0, 1, .. as far as told (of ASSETS told ahead; others 0);");
        Doc.reads("asset 7 3;asset 8 4;house 1 2 3 4 1;",
                "asset 7 3;asset 8 4;house 1 2 3 4 1 0 0;");
        Doc.reads("asset 7 3;asset 8 4;house 1 2 3 4 1 5;",
                "asset 7 3;asset 8 4;house 1 2 3 4 1 5 0;");
        Doc.reads("asset 7 3;asset 8 4;house 1 2 3 4 1 0 6;",
                "asset 7 3;asset 8 4;house 1 2 3 4 1 0 6;");
        Doc.reads("asset 7 3;house 1 2 3 4 1 5;asset 8 4;",
                "asset 7 3;asset 8 4;house 1 2 3 4 1 5 0;");
        // the same object again: what an earlier TEXT told is not told ahead
        Thing t = Thing.of("asset 7 3;house 1 2 3 4 1 5;house 0 0 0 1 0;loan 0 1 9;");
        Doc.due("asset of an earlier TEXT", faultOf(t, "house 1 2 3 4 1 5;"), -20);
        Doc.due("house of an earlier TEXT", faultOf(t, "loan 0 1 9;"), -9);
        Doc.due("a FAULT's TEXT tells nothing ahead", faultOf(t, ASSET + HOUSE + "x"), -30);
        Doc.due("asset of a refused TEXT", faultOf(t, "cap 0 9;"), -8);
        Doc.says(Doc.TERMS, "loan: two unlike HOUSES told ahead, the LOAN (of like ones the latest "
                + "holds);");
        Doc.reads(HOUSE + HOUSE + "loan 0 1 999;loan 1 0 1;",
                HOUSE + HOUSE + "loan 0 1 999;loan 1 0 1;");
        Doc.reads(HOUSE + HOUSE + "loan 0 1 5;loan 1 0 7;loan 0 1 6;",
                HOUSE + HOUSE + "loan 0 1 6;loan 1 0 7;");
        Doc.reads(HOUSE + HOUSE + "loan 0 1 5;loan 0 1 0;", HOUSE + HOUSE);
        Doc.says(Doc.TERMS, "cap, shock: an ASSET told ahead, how much: they come on SHELF 0, on "
                + "SHELF 1, behind the others.");
        Doc.reads("asset 7 3;asset 8 4;cap 1 9;shock 1 8;cap 0 7;shock 0 6;cap 1 360;shock 0 200;"
                + "cap 0 0;shock 1 0;", "asset 7 3;asset 8 4;cap 1 9;cap 0 7;cap 1 360;cap 0 0;"
                + "shock 1 8;shock 0 6;shock 0 200;shock 1 0;");
    }

    /** A WORD with a letter too few, too many, or another one, at each place. */
    private static void otherWords(String word) {
        for (int i = 0; i <= word.length(); i++) {
            for (char letter = 'a'; letter <= 'z'; letter++) {
                String more = word.substring(0, i) + letter + word.substring(i);
                Doc.fault("^" + more + " 1 1;");
                if (i < word.length() && letter != word.charAt(i)) {
                    String other = word.substring(0, i) + letter + word.substring(i + 1);
                    Doc.fault("^" + other + " 1 1;");
                }
            }
            if (i < word.length()) {
                Doc.fault("^" + word.substring(0, i) + word.substring(i + 1) + " 1 1;");
            }
        }
    }

    private static void signs() {
        Doc.says(Doc.TERMS, "WORDS are small letters as far as they go on, N digits as far as they "
                + "go on (one to four, 0s ahead, too).");
        Doc.reads("asset 0001 0000;house 0000 9999 0010 0099 0001 0060;",
                "asset 1 0;house 0 9999 10 99 1 60;");
        for (String word : WORDS) {
            otherWords(word);
        }
        Doc.fault("^as set 1 1;");
        Doc.fault("^Asset 1 1;");
        Doc.fault("^ASSET 1 1;");
        Doc.fault("asset^S 1 1;");
        Doc.fault("asset^_1 1;");
        Doc.fault("asset ^+1 1;");
        Doc.fault("asset ^-1 1;");
        Doc.fault("asset 1^.0 1;");
        Doc.says(Doc.TERMS, "Blanks (32), line ends (10) where one likes; one at least between two "
                + "WORDS, two N, a WORD and N (else the second one can't stand there).");
        Doc.reads(" \n asset \n 7\n\n3 ; \n house 1\n2 3 4\n1\n5\n;\n",
                "asset 7 3;house 1 2 3 4 1 5;");
        Doc.reads("asset\n7\n3;house\n1\n2\n3\n4\n1\n5;", "asset 7 3;house 1 2 3 4 1 5;");
        Doc.reads(" ", "");
        Doc.reads("\n", "");
        for (char sign = 0; sign < 256; sign++) {
            if (sign != ' ' && sign != '\n') {
                Doc.fault("^" + sign);
                if (sign < '0' || sign > '9') {
                    Doc.fault("asset 1^" + sign + "1;");
                    Doc.fault("asset ^" + sign + "1 1;");
                }
                if (sign < 'a' || sign > 'z') {
                    Doc.fault("asset^" + sign + "1 1;");
                }
            }
        }
        Doc.fault("asset^7 3;");
        Doc.fault("house^1 2 3 4 1;");
        Doc.fault(HOUSE + HOUSE + "loan^0 1 5;");
        Doc.fault(ASSET + "cap^0 1;");
        Doc.fault(ASSET + "shock^0 1;");
        Doc.fault("asset 7 3^asset 7 3;");
        Doc.fault("asset ^house 1 1;");
        Doc.fault("^assetasset 7 3;");
        Doc.fault("asset 7 3; ^7");
    }

    private static void faults() {
        Doc.says(Doc.TERMS, "FAULT: the first byte that can't stand there (of a WORD, N its first "
                + "one:");
        Doc.fault("asset 1 1;^;");
        Doc.fault("asset 1 1;^9;");
        Doc.fault("asset ^;");
        Doc.fault("asset 1 ^x");
        Doc.fault("asset 1 1 ^x;");
        Doc.fault("asset ^0 10;");
        Doc.fault("house 1 2 3 ^0 2;");
        Doc.fault(ASSET + "house 1 2 3 4 1 ^61 61;");
        Doc.fault(ASSET + "house 1 2 3 4 1 5 ^x;");
        Doc.fault("^other 99999;");
        // FAULTS of each kind behind a first one count for nothing
        Doc.fault(HOUSE + "loan ^1 1 1000;");
        Doc.fault(HOUSE + "loan 0 ^0 1000");
        Doc.fault("asset ^201");
        Doc.fault("asset ^00001");
    }

    private static void faultsOfNumbers() {
        Doc.says(Doc.TERMS, "also an N out of bounds");
        Doc.reads("asset 200 9;house 9999 9999 9999 99 1 60;",
                "asset 200 9;house 9999 9999 9999 99 1 60;");
        Doc.reads("asset 1 0;house 0 0 0 1 0 0;", "asset 1 0;house 0 0 0 1 0 0;");
        Doc.fault("asset ^0 1;");
        Doc.fault("asset ^201 1;");
        Doc.fault("asset ^9999 1;");
        Doc.fault("asset 1 ^10;");
        Doc.fault("house 1 1 1 ^0 1;");
        Doc.fault("house 1 1 1 ^0000 1;");
        Doc.fault("house 1 1 1 ^100 1;");
        Doc.fault("house 1 1 1 1 ^2;");
        Doc.fault(ASSET + "house 1 1 1 1 1 ^61;");
        Doc.fault(ASSET + ASSET + ASSET + ASSET + "house 1 1 1 1 1 60 60 60 ^61;");
        Doc.fault(HOUSE + HOUSE + "loan 0 1 ^1000;");
        Doc.fault(ASSET + "cap 0 ^361;");
        Doc.fault(ASSET + "shock 0 ^201;");
        Doc.says(Doc.TERMS, "of five digits or more");
        Doc.fault("asset ^00001 1;");
        Doc.fault("house ^10000 1 1 1 1;");
        Doc.fault("house 1 ^10000 1 1 1;");
        Doc.fault("house 1 1 ^09999 1 1;");
        Doc.fault("house ^4294967296 1 1 1 1;");
        Doc.fault("house ^18446744073709551616 1 1 1 1;");
        Doc.fault("house " + "^" + "0".repeat(700) + " 1 1 1 1;");
        Doc.fault(ASSET + "cap 0 ^00000;");
        Doc.says(Doc.TERMS, "one of an ASSET or HOUSE not told ahead");
        Doc.fault("cap ^0 1;" + ASSET);
        Doc.fault("shock ^0 1;" + ASSET);
        Doc.fault(ASSET + "cap ^1 1;" + ASSET);
        Doc.fault(ASSET + ASSET + ASSET + ASSET + "shock ^4 1;");
        Doc.fault("loan ^0 1 1;");
        Doc.fault(HOUSE + "loan 0 ^1 1;" + HOUSE);
        Doc.fault(HOUSE + "loan ^1 0 1;" + HOUSE);
        Doc.fault(HOUSE.repeat(6) + "loan ^6 0 1;");
        Doc.fault(HOUSE.repeat(6) + "loan 5 ^6 1;");
        Doc.reads(HOUSE.repeat(6) + "loan 5 4 1;", HOUSE.repeat(6) + "loan 5 4 1;");
        Doc.says(Doc.TERMS, "a second HOUSE that is the first one");
        Doc.fault(HOUSE + "loan 0 ^0 1;");
        Doc.fault(HOUSE + HOUSE + "loan 1 ^0001 1;");
        Doc.fault(HOUSE + HOUSE + "loan 0 ^0 0;");
        Doc.says(Doc.TERMS, "a HOLDING of an ASSET not told ahead;");
        Doc.fault("house 1 1 1 1 1 ^0;");
        Doc.fault(ASSET + "house 1 1 1 1 1 0 ^0;" + ASSET);
        Doc.fault(ASSET.repeat(4) + "house 1 1 1 1 1 0 0 0 0 ^0;");
        Doc.fault("house 1 1 1 1 1 ^99999;");
    }

    private static void faultsOfTooMany() {
        Doc.says(Doc.TERMS, "a fifth asset, cap, shock, a seventh house at its WORD;");
        Doc.fault(ASSET.repeat(4) + "^asset 1 0;");
        Doc.fault(ASSET.repeat(4) + " \n^asset");
        Doc.fault(ASSET.repeat(4) + "^asset0");
        Doc.fault(ASSET.repeat(4) + "^assetx");
        Doc.reads(ASSET.repeat(4), ASSET.repeat(4));
        Doc.fault(ASSET + "cap 0 5;".repeat(4) + "^cap 0 5;");
        Doc.fault(ASSET + "cap 0 5;".repeat(4) + "^cap 9 999;");
        Doc.reads(ASSET + "cap 0 5;".repeat(4) + "shock 0 5;",
                ASSET + "cap 0 5;".repeat(4) + "shock 0 5;");
        Doc.fault(ASSET + "shock 0 5;".repeat(4) + "^shock 0 5;");
        Doc.reads(ASSET + "shock 0 5;".repeat(4) + "cap 0 5;",
                ASSET + "cap 0 5;" + "shock 0 5;".repeat(4));
        Doc.fault(HOUSE.repeat(6) + "^house 0 0 0 1 0;");
        Doc.fault(HOUSE.repeat(6) + "^house");
        // SHELVES that were full before the TEXT are empty in it
        Thing t = Thing.of(ASSET + "cap 0 5;".repeat(4) + "shock 0 5;".repeat(4)
                + "|lay 2 0 0 1|lay 2 0 0 1|lay 2 0 0 1|lay 2 0 0 1");
        t.tell(ASSET + "cap 0 6;".repeat(4) + "shock 0 6;".repeat(4));
        Doc.due("text on full SHELVES", t.call("text"), 0);
        Doc.dueText("on full SHELVES", t.things(),
                ASSET + "cap 0 6;".repeat(4) + "shock 0 6;".repeat(4));
    }

    private static void faultsOfEnds() {
        Doc.says(Doc.TERMS, "the TEXT's length, if it ends too early).");
        Doc.fault("asset^");
        Doc.fault("asset ^");
        Doc.fault("asset \n ^");
        Doc.fault("asset 1^");
        Doc.fault("asset 1 1^");
        Doc.fault("asset 1 1 ^");
        Doc.fault("house 1 1 1 1 1^");
        String text = "asset 12 3;\nhouse 1 22 3 4 1 56 ;house 1 2 3 4 0;loan 0 1 22;cap 0 33;"
                + "shock 0 44; ";
        // cut within a WORD: that WORD can't stand there; cut behind a ; and blanks: a TEXT
        for (int end = 0; end <= text.length(); end++) {
            String cut = text.substring(0, end);
            String last = cut.substring(cut.lastIndexOf(';') + 1);
            String word = last.trim();
            if (word.isEmpty()) {
                Thing t = new Thing();
                t.tell(cut);
                Doc.due("text of " + cut, Math.min(0, t.call("text")), 0);
            } else if (word.matches("[a-z]+") && !WORDS.contains(word)) {
                Doc.faultAt(cut, end - word.length());
            } else {
                Doc.faultAt(cut, end);
            }
        }
    }
}
