/** Texts for the tape that are often good, and often not quite. */
final class MadeUpTexts {
    static final String[] PIECES = {"(", ")", "!", "*", "+", "-", "a", "b", "S", "A", "S*",
        "A!", " ", "\n", ".", "1", "S(a", "word", "abcdefghijkl", "abcdefghijklm", "ABCDEFGH",
        "ABCDEFGHI", "\u00c4", "\u0000", "\u007f", "\u000b"};

    private MadeUpTexts() {
    }

    /** A tree of many names, and perhaps of too many nodes. */
    static String crowd(Dice dice) {
        StringBuilder out = new StringBuilder("S(");
        int parts = 8 + dice.roll(5);
        for (int i = 0; i < parts; i++) {
            char digit = (char) ('0' + dice.roll(10));
            char small = (char) ('a' + dice.roll(26));
            out.append(dice.chance(20) ? "L" + digit + "! " : small + dice.pick("", "a", "b") + " ");
        }
        return out.append(")").toString();
    }

    static String spoil(Dice dice, String text) {
        int at = dice.roll(text.length() + 1);
        int to = Math.min(text.length(), at + dice.roll(3));
        String piece = dice.chance(30) ? "" : dice.pick(PIECES);
        return text.substring(0, at) + piece + text.substring(to);
    }

    static String pieces(Dice dice, String[] choices, int most) {
        StringBuilder out = new StringBuilder();
        int many = dice.roll(most + 1);
        for (int i = 0; i < many; i++) {
            out.append(dice.pick(choices));
        }
        return out.toString();
    }
}
