import java.io.IOException;
import java.io.UncheckedIOException;
import java.nio.file.Files;
import java.nio.file.Path;

/**
 * The document's sentences, and rows that hold the class to them. A test tells the words that it
 * is about; they must stand in the document, and at the end no word of it may be left untold.
 */
final class Doc {
    static final int TERMS = 0;
    static final int PROMISES = 56;
    static final int IT = PROMISES + 1;

    private static final String[] SECTIONS = sections();
    private static final boolean[][] TOLD = new boolean[IT + 1][];
    private static String now = "";

    private Doc() {
    }

    private static String plain(String words) {
        return words.replaceAll("==== [IV]+\\.", " ").replace("```text", " ").replace("```", " ")
                .replaceAll("\\s+", " ").trim();
    }

    private static String between(String all, String from, String to) {
        int start = all.indexOf(from) + from.length();
        return all.substring(start, all.indexOf(to, start));
    }

    private static String[] sections() {
        String all;
        try {
            all = Files.readString(Path.of(System.getProperty("shared"), "DOC.md"));
        } catch (IOException e) {
            throw new UncheckedIOException(e);
        }
        String[] sections = new String[IT + 1];
        sections[IT] = plain(between(all, "\n## What it is\n", "\n## "));
        sections[TERMS] = plain(between(all, "\n## Terms\n", "\nAhead of the calls"));
        for (int i = 1; i <= PROMISES; i++) {
            String promise = between(all, "\n## Promise " + i + ": ", "\n## ");
            sections[i] = plain(promise.substring(promise.indexOf("`: ") + 3));
        }
        return sections;
    }

    /** What follows is about these words of a promise (or of the TERMS, or of what IT is). */
    static void says(int promise, String words) {
        now = promise + " '" + words + "'";
        if (TOLD[promise] == null) {
            TOLD[promise] = new boolean[SECTIONS[promise].length()];
        }
        int at = SECTIONS[promise].indexOf(words);
        Check.due(now + " stands in the document", at >= 0 ? 1 : 0, 1);
        for (int i = Math.max(0, at); at >= 0 && i < at + words.length(); i++) {
            TOLD[promise][i] = true;
        }
    }

    /** Of all promises and of the TERMS each word was told by a test. */
    static void allIsTold() {
        for (int promise = 0; promise <= PROMISES; promise++) {
            StringBuilder untold = new StringBuilder();
            for (int i = 0; i < SECTIONS[promise].length(); i++) {
                char c = SECTIONS[promise].charAt(i);
                boolean told = TOLD[promise] != null && TOLD[promise][i];
                if (!told && Character.isLetterOrDigit(c)) {
                    untold.append(c);
                }
            }
            Check.due("promise " + promise + " has no test for " + untold, untold.length(), 0);
        }
    }

    static void due(String call, long got, long want) {
        Check.due(now + ": " + call, got, want);
    }

    static void dueText(String call, String got, String want) {
        Check.dueText(now + ": " + call, got, want);
    }

    /** The call answers so, again and again, and nothing changes by it. */
    static void answer(String world, String call, long want) {
        Thing t = Thing.of(world);
        t.use();
        String was = t.whole();
        due(call + " in " + world, t.call(call), want);
        due(call + " again in " + world, t.call(call), want);
        dueText(call + " changes nothing in " + world, t.whole(), was);
    }

    /** Each "call = answer" on a new object; nothing changes by it. */
    static void answers(String world, String... rows) {
        for (String row : rows) {
            String[] sides = row.split(" = ");
            answer(world, sides[0], Long.parseLong(sides[1]));
        }
    }

    /** Each call answers NONE, and nothing changes by it. */
    static void none(String world, String... calls) {
        for (String call : calls) {
            answer(world, call, FireSale.NONE);
        }
    }

    /** The "call = answer" is an ACT: things are so then, and as before when it is undone. */
    static void does(String world, String row, String after) {
        String[] sides = row.split(" = ");
        Thing t = Thing.of(world);
        t.use();
        String was = t.things();
        long acts = t.call("count 2");
        due(row + " in " + world, t.call(sides[0]), Long.parseLong(sides[1]));
        dueText(row + " in " + world, t.things(), after);
        due("acts behind " + row, t.call("count 2"), Math.min(12, acts + 1));
        due("undo of " + row, t.call("undo"), Math.min(11, acts));
        dueText("undone " + row + " in " + world, t.things(), was);
    }

    /** The text is read, and tells these things. */
    static void reads(String text, String after) {
        Thing t = new Thing();
        t.tell(text);
        int houses = after.split("house", -1).length - 1;
        due("text of " + text, t.call("text"), houses);
        dueText("text of " + text, t.things(), after);
        due("tape behind " + text, t.call("count 3"), 0);
    }

    /** The text's FAULT is at the mark ^, which is not part of it. */
    static void fault(String marked) {
        int at = marked.indexOf('^');
        faultAt(marked.substring(0, at) + marked.substring(at + 1), at);
    }

    static void faultAt(String text, int at) {
        String kept = "asset 9 1;house 5 0 0 1 0 3;house 6 1 0 2 1 4;loan 0 1 2;cap 0 9;shock 0 1;";
        Thing t = Thing.of(kept + "|lay 2 0 0 7");
        String was = t.whole();
        t.tell(text);
        due("text of " + text, t.call("text"), -4 - at);
        dueText("behind the fault of " + text, t.whole(), was);
    }
}
