import java.util.ArrayList;
import java.util.List;
import java.util.regex.Matcher;
import java.util.regex.Pattern;

/** A TEXT read the plain way: cut into pieces first, then told piece by piece. */
final class OracleText {
    private static final class Fault extends RuntimeException {
        private static final long serialVersionUID = 1L;
        final int at;

        Fault(int at) {
            this.at = at;
        }
    }

    private record Piece(String text, int at, boolean glued) {
    }

    private static final Pattern PIECE = Pattern.compile("([ \n]*)([a-z]+|[0-9]+|(?s:.))");

    final Oracle.World world = new Oracle.World();
    private final List<Piece> pieces = new ArrayList<>();
    private final int length;
    private int next = 0;

    OracleText(String text) {
        length = text.length();
        // not $, which stands ahead of a last \r or (char) 133 as well
        String rest = text.replaceAll("[ \n]+\\z", "");
        Matcher m = PIECE.matcher(rest);
        int at = 0;
        boolean afterSign = false;
        while (at < rest.length() && m.find(at)) {
            boolean sign = m.group(2).matches("[a-z]+|[0-9]+");
            pieces.add(new Piece(m.group(2), m.start(2),
                    sign && afterSign && m.group(1).isEmpty()));
            afterSign = sign;
            at = m.end();
        }
    }

    int fault() {
        try {
            while (next < pieces.size()) {
                sentence();
            }
            return -1;
        } catch (Fault fault) {
            return fault.at;
        }
    }

    private Piece take() {
        if (next == pieces.size()) {
            throw new Fault(length);
        }
        Piece piece = pieces.get(next);
        next++;
        if (piece.glued()) {
            throw new Fault(piece.at());
        }
        return piece;
    }

    private int number(int least, int most, int not) {
        Piece piece = take();
        if (!piece.text().matches("[0-9]{1,4}")) {
            throw new Fault(piece.at());
        }
        int v = Integer.parseInt(piece.text());
        if (v < least || v > most || v == not) {
            throw new Fault(piece.at());
        }
        return v;
    }

    private int number(int least, int most) {
        return number(least, most, -1);
    }

    private void end() {
        Piece piece = take();
        if (!piece.text().equals(";")) {
            throw new Fault(piece.at());
        }
    }

    private static void refuse(boolean full, Piece word) {
        if (full) {
            throw new Fault(word.at());
        }
    }

    private void sentence() {
        Piece word = take();
        int houses = world.houses.size();
        switch (word.text()) {
            case "asset" -> {
                refuse(world.assets.size() == 4, word);
                world.assets.add(new int[] {number(1, 200), number(0, 9)});
                end();
            }
            case "house" -> {
                refuse(houses == 6, word);
                house();
            }
            case "loan" -> {
                int from = number(0, houses - 1);
                int to = number(0, houses - 1, from);
                world.loans[from][to] = number(0, 999);
                end();
            }
            case "cap", "shock" -> {
                int kind = word.text().equals("cap") ? 0 : 1;
                refuse(world.shelves.get(kind).size() == 4, word);
                int asset = number(0, world.assets.size() - 1);
                int v = number(0, kind == 0 ? 360 : 200);
                world.shelves.get(kind).add(new Oracle.Item(kind, asset, v));
                end();
            }
            default -> throw new Fault(word.at());
        }
    }

    private void house() {
        int cash = number(0, 9999);
        int debt = number(0, 9999);
        int floor = number(0, 9999);
        int step = number(1, 99);
        int way = number(0, 1);
        List<Integer> all = new ArrayList<>();
        while (next < pieces.size() && !pieces.get(next).text().equals(";")) {
            if (all.size() == world.assets.size()) {
                throw new Fault(pieces.get(next).at());
            }
            all.add(number(0, 60));
        }
        end();
        while (all.size() < 4) {
            all.add(0);
        }
        world.houses.add(new Oracle.House(cash, debt, floor, step, way, all));
    }
}
