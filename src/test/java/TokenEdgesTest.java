/** The edges of tokens, sentence by sentence: "What it is", and fault 1 of FAULTS. */
public final class TokenEdgesTest {
    private static final Harness H = new Harness("TokenEdgesTest");
    private static final String BLANKS = "\t\n\r ";
    private static final String SIGNS = "()!*+-";

    public static void main(String[] args) {
        everyByteBeforeAWord();
        everyByteBehindAWord();
        everyByteBehindALabel();
        everyByteInASentence();
        everyByteRead();
        labelOfAtMost8Bytes();
        wordOfAtMost12();
        tokensAreAsLongAsMayBe();
        blanksWhereOneLikes();
        H.done();
    }

    private static boolean isSmall(char b) {
        return b >= 'a' && b <= 'z';
    }

    private static boolean isGreat(char b) {
        return b >= 'A' && b <= 'Z';
    }

    private static boolean isDigit(char b) {
        return b >= '0' && b <= '9';
    }

    private static boolean isBlank(char b) {
        return BLANKS.indexOf(b) >= 0;
    }

    private static boolean isSign(char b) {
        return SIGNS.indexOf(b) >= 0;
    }

    // "1: no token begins there": each of the 256 bytes where a token may begin.
    private static void everyByteBeforeAWord() {
        for (char b = 0; b < 256; b++) {
            TreeJoiner x = new TreeJoiner();
            String text = "S(" + b + "a)";
            if (isBlank(b) || isSmall(b)) {
                H.goodTree(x, text);
                H.same("WORD of " + text, isBlank(b) ? "a" : b + "a",
                        Harness.name(x, true, 0, isBlank(b) ? 1 : 2));
            } else if (isGreat(b)) {
                H.badTree(x, text, 2, 3);
            } else {
                H.badTree(x, text, isSign(b) ? 2 : 1, 2);
            }
        }
    }

    // "a WORD (small letters ...)": each byte behind a small letter.
    private static void everyByteBehindAWord() {
        for (char b = 0; b < 256; b++) {
            TreeJoiner x = new TreeJoiner();
            String text = "S(a" + b + ")";
            if (isBlank(b) || isSmall(b)) {
                H.goodTree(x, text);
            } else if (isGreat(b) || b == ')') {
                H.badTree(x, text, 2, 4);
            } else {
                H.badTree(x, text, isSign(b) ? 2 : 1, 3);
            }
        }
    }

    // "a LABEL (a great letter, then great letters and digits ...)": each byte behind a great letter.
    private static void everyByteBehindALabel() {
        for (char b = 0; b < 256; b++) {
            TreeJoiner x = new TreeJoiner();
            String text = "S" + b + "(a)";
            if (isGreat(b) || isDigit(b)) {
                H.goodTree(x, text);
                H.same("LABEL of " + text, "S" + b, Harness.name(x, false, 0, 2));
            } else if (isBlank(b) || b == '+' || b == '-') {
                H.goodTree(x, text);
                H.index("LABEL of " + text, () -> x.letter(false, 0, 1));
            } else if (b == '!' || b == '*' || b == '(') {
                H.badTree(x, text, 2, 2);
            } else {
                H.badTree(x, text, isSmall(b) || b == ')' ? 2 : 1, 1);
            }
        }
    }

    // Promise 5: "WORDs, with blanks between ... its fault (1; 2; ...)".
    private static void everyByteInASentence() {
        for (char b = 0; b < 256; b++) {
            TreeJoiner x = new TreeJoiner();
            String text = "a" + b + "a";
            if (isBlank(b) || isSmall(b)) {
                H.goodSentence(x, text, isBlank(b) ? 2 : 1);
            } else {
                H.badSentence(x, text, isSign(b) || isGreat(b) ? 2 : 1, 1);
            }
        }
    }

    // Promise 6: "The tape ... is a LABEL ... its fault (1, 2)".
    private static void everyByteRead() {
        for (char b = 0; b < 256; b++) {
            TreeJoiner x = new TreeJoiner();
            if (isBlank(b) || isGreat(b)) {
                H.goodRead(x, b + "S", 0);
            } else {
                H.badRead(x, b + "S", isSign(b) || isSmall(b) ? 2 : 1, 0);
            }
            if (isBlank(b) || isGreat(b) || isDigit(b)) {
                H.goodRead(x, "S" + b, 0);
            } else {
                H.badRead(x, "S" + b, isSign(b) || isSmall(b) ? 2 : 1, 1);
            }
        }
    }

    // "a LABEL (... at most 8 bytes)", "or it is too long".
    private static void labelOfAtMost8Bytes() {
        TreeJoiner x = new TreeJoiner();
        for (int bytes = 1; bytes <= 8; bytes++) {
            String label = "Z9".repeat(4).substring(0, bytes);
            H.goodTree(x, label + "(" + "A".repeat(bytes) + "! a)");
            H.same("LABEL of " + bytes, label, Harness.name(x, false, 2 * bytes - 2, bytes));
            H.goodRead(x, label, 0);
        }
        H.same("LABELs", 16, x.count(1));
        for (int bytes : new int[] {9, 10, 16, 17, 100, 994}) {
            String label = "A".repeat(bytes);
            H.badTree(x, label + "(a)", 1, 0);
            H.badTree(x, "A(" + label + "!a", 1, 2);
            H.badSentence(x, " " + label, 1, 1);
            H.badRead(x, "  " + label, 1, 2);
        }
        H.badTree(x, "A12345678(a)", 1, 0);
        H.badRead(x, "A12345678", 1, 0);
        H.badRead(x, "A".repeat(1000), 1, 0);
    }

    // "a WORD (small letters, at most 12)", "or it is too long".
    private static void wordOfAtMost12() {
        TreeJoiner x = new TreeJoiner();
        for (int bytes = 1; bytes <= 12; bytes++) {
            String word = "az".repeat(6).substring(0, bytes);
            H.goodTree(x, "S(" + word + ")");
            H.same("WORD of " + bytes, word, Harness.name(x, true, bytes - 1, bytes));
            H.goodSentence(x, word, 1);
            H.goodRead(x, "S", 1);
        }
        for (int bytes : new int[] {13, 14, 24, 25, 100, 996}) {
            String word = "a".repeat(bytes);
            H.badTree(x, "S(" + word + ")", 1, 2);
            H.badTree(x, word, 1, 0);
            H.badSentence(x, " a " + word, 1, 3);
            H.badRead(x, "S " + word, 1, 2);
        }
        H.badSentence(x, "a".repeat(1000), 1, 0);
        H.same("the sentence stays", 1, x.count(3));
    }

    // "(tokens are as long as may be)": no token ends where it could go on.
    private static void tokensAreAsLongAsMayBe() {
        TreeJoiner x = new TreeJoiner();
        H.goodTree(x, "AB(ab)");
        H.same("one LABEL", 1, x.count(1));
        H.same("one WORD", 1, x.count(2));
        H.badTree(x, "S(abcdefghijkl m)n", 2, 17);
        H.badTree(x, "S(abcdefghijklm)n", 1, 2);
        H.badTree(x, "ABCDEFGH I(a)", 2, 9);
        H.badTree(x, "ABCDEFGHI(a)", 1, 0);
        H.badTree(x, "ABCDEFGHa", 2, 8);
        H.badTree(x, "S(aB1c(d))", 2, 5);
        H.goodTree(x, "S(aB1(d))");
        H.goodSentence(x, "abcdefghijkl mnopqrstuvwx", 2);
        H.badSentence(x, "abcdefghijklmnopqrstuvwx", 1, 0);
        H.badRead(x, "ABCDEFGH I", 2, 9);
    }

    // "tokens, with blanks (9, 10, 13, 32) between where one likes": none, one, or many.
    private static void blanksWhereOneLikes() {
        TreeJoiner x = new TreeJoiner();
        H.goodTree(x, "S+(A-(a)B!S*b)");
        String due = Harness.nodes(x, 0, 6);
        for (char b : BLANKS.toCharArray()) {
            String spaced = "S+(A-(a)B!S*b)".replaceAll("", b + "" + b);
            H.goodTree(x, spaced);
            H.same("nodes of " + spaced, due, Harness.nodes(x, x.count(0) - 1, 6));
        }
        H.goodTree(x, " ".repeat(498) + "S(a)" + "\n".repeat(498));
        H.badTree(x, " ".repeat(996) + "S(a.", 1, 999);
        H.goodSentence(x, "\r".repeat(999) + "a", 1);
        H.goodRead(x, "\t".repeat(999) + "S", 1);
        H.goodSentence(x, " ".repeat(1000), 0);
        H.badRead(x, " ".repeat(1000), 2, 1000);
        H.badTree(x, " ".repeat(1000), 2, 1000);
    }
}
