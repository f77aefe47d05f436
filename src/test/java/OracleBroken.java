/** Breaks a text at one or two places, as a tape might be. */
final class OracleBroken {
    private OracleBroken() {
    }

    static String broken(String text, Dice dice) {
        StringBuilder all = new StringBuilder(text);
        String signs = "0159 ;\nahlz{A\0\u00ff\t\r-";
        for (int i = dice.from(1, 2); i > 0 && all.length() > 0; i--) {
            int at = dice.below(all.length());
            char sign = signs.charAt(dice.below(signs.length()));
            switch (dice.below(5)) {
                case 0 -> all.setCharAt(at, sign);
                case 1 -> all.insert(at, sign);
                case 2 -> all.deleteCharAt(at);
                case 3 -> all.setLength(at);
                default -> all.insert(at, dice.oneIn(2) ? "cap 0 1;" : " 00012 ");
            }
        }
        all.setLength(Math.min(800, all.length()));
        return all.toString();
    }
}
