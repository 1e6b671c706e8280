/** The edges of promises 5, 6, 13 and 14, sentence by sentence. */
public final class SentenceEdgesTest {
    private static final Harness H = new Harness("SentenceEdgesTest");
    private static final String CHOSEN = "2 1 2 2 1 2 4 ";

    public static void main(String[] args) {
        upTo8Words();
        the9thWord();
        sentenceFaults();
        sentenceWasNotRead();
        sentenceFaultAllElseStays();
        readIsOneLabel();
        readFaultsWasNotRead();
        readLabelOfNoTree();
        readWithoutTreesOrWords();
        noWayIsChosen();
        clearAllGo();
        clearTheSentenceStays();
        clearHowMany();
        countEach();
        countWhat();
        H.done();
    }

    /** A way of two uses is chosen. */
    private static TreeJoiner chosen() {
        TreeJoiner x = Harness.with("S(a)", "S(S* b)");
        Harness.sentence(x, "a b");
        Harness.read(x, "S");
        x.choose(0);
        H.same("the counts", CHOSEN + "0", Harness.state(x).split("\n")[0]);
        return x;
    }

    // "A SENTENCE has up to 8 words": none, one, seven, eight.
    private static void upTo8Words() {
        for (int words = 0; words <= 8; words++) {
            TreeJoiner x = new TreeJoiner();
            H.goodSentence(x, "a ".repeat(words), words);
            H.goodSentence(x, "\t\n" + "abcdefghijkl\r".repeat(words), words);
            if (words > 0) {
                H.goodTree(x, "S(" + "abcdefghijkl ".repeat(words) + ")");
            }
            H.goodRead(x, "S", words > 0 ? 1 : 0);
        }
    }

    // Promise 5: "3 at the 9th WORD".
    private static void the9thWord() {
        TreeJoiner x = new TreeJoiner();
        H.badSentence(x, "a b c d e f g h i", 3, 16);
        H.badSentence(x, "a a a a a a a a   a", 3, 18);
        H.badSentence(x, "a ".repeat(10), 3, 16);
        H.badSentence(x, "a ".repeat(500), 3, 16);
        H.badSentence(x, "abcdefghijkl ".repeat(9), 3, 104);
        H.same("words", 0, x.count(3));
        // The one that comes first on the tape.
        H.badSentence(x, "a a a a a a a a a .", 3, 16);
        H.badSentence(x, "a a a a a a a a a A", 3, 16);
        H.badSentence(x, "a a a a a a a a . a", 1, 16);
        H.badSentence(x, "a a a a a a a a A a", 2, 16);
        H.badSentence(x, "a a a a a a a a abcdefghijklm", 1, 16);
        // Trees, and their number of WORDs, do not matter.
        TreeJoiner y = Harness.with("S(a b c d e f g h i j k)", "S(l m n o p q r s t u v)",
                "S(w x y z aa bb cc dd ee ff)");
        H.goodSentence(y, "gg hh ii jj kk ll mm nn", 8);
        H.badSentence(y, "a a a a a a a a a", 3, 16);
        H.same("words", 8, y.count(3));
    }

    // Promise 5: "or -1 less the place of its fault (1; 2; ...)".
    private static void sentenceFaults() {
        TreeJoiner x = new TreeJoiner();
        H.badSentence(x, ".", 1, 0);
        H.badSentence(x, "a  abcdefghijklm", 1, 3);
        H.badSentence(x, "a ABCDEFGHI", 1, 2);
        H.badSentence(x, "A", 2, 0);
        H.badSentence(x, "a a a a a a a Z", 2, 14);
        for (String sign : new String[] {"(", ")", "!", "*", "+", "-"}) {
            H.badSentence(x, sign, 2, 0);
            H.badSentence(x, "a " + sign + " .", 2, 2);
            H.badSentence(x, "a . " + sign, 1, 2);
        }
    }

    // Promise 5: "how many, and it was not read".
    private static void sentenceWasNotRead() {
        for (String text : new String[] {"a b", "a", "", "c"}) {
            TreeJoiner x = chosen();
            Harness.sentence(x, text);
            int words = text.isEmpty() ? 0 : (text.length() + 1) / 2;
            H.same("counts behind " + text, "2 1 2 " + words + " -1 0 0 0\n", Harness.state(x));
            H.state("choose(0) behind " + text, () -> x.choose(0));
            H.index("use(0, 0) behind " + text, () -> x.use(0, 0));
            H.index("whole(0, 0) behind " + text, () -> x.whole(0, 0));
        }
    }

    // Promise 5: "then all else stays".
    private static void sentenceFaultAllElseStays() {
        String[] faulty = {".", "a A", "b b b b b b b b b", "b abcdefghijklm", "b b b !"};
        int[] codes = {1, 2, 3, 1, 2};
        for (int i = 0; i < faulty.length; i++) {
            TreeJoiner x = chosen();
            String before = Harness.everything(x);
            Harness.sentence(x, faulty[i]);
            H.same("all else behind " + faulty[i], before.replace(CHOSEN + "0", CHOSEN + codes[i]),
                    Harness.everything(x));
            H.same("choose", 2, x.choose(0));
            H.goodRead(x, "S", 1);
        }
    }

    // Promise 6: "The tape ... is a LABEL".
    private static void readIsOneLabel() {
        TreeJoiner x = Harness.with("S(a)", "ABCDEFGH(a)", "A0000009(a)");
        Harness.sentence(x, "a");
        H.goodRead(x, "S", 1);
        H.goodRead(x, "ABCDEFGH", 1);
        H.goodRead(x, "A0000009\n", 1);
        H.goodRead(x, "ABCDEFG", 0);
        H.badRead(x, "ABCDEFGHI", 1, 0);
        H.badRead(x, "", 2, 0);
        H.badRead(x, "\t\t\t", 2, 3);
        H.badRead(x, "S S", 2, 2);
        H.badRead(x, "S!", 2, 1);
        H.badRead(x, "S(a)", 2, 1);
        H.badRead(x, "a", 2, 0);
        H.badRead(x, "abcdefghijklm", 1, 0);
        H.badRead(x, "0", 1, 0);
        H.badRead(x, "S S .", 2, 2);
        H.badRead(x, "S . S", 1, 2);
    }

    // Promise 6: "-1 less the place of its fault (1, 2): then it was not read."
    private static void readFaultsWasNotRead() {
        for (String faulty : new String[] {"", ".", "a", "S S", "ABCDEFGHI", "S ."}) {
            TreeJoiner x = chosen();
            String trees = Harness.everything(x);
            Harness.read(x, faulty);
            int code = x.fault();
            H.same("counts behind " + faulty, "2 1 2 2 -1 0 0 " + code + "\n", Harness.state(x));
            H.state("choose(0) behind " + faulty, () -> x.choose(0));
            H.state("choose(-1) behind " + faulty, () -> x.choose(-1));
            H.index("use(0, 0) behind " + faulty, () -> x.use(0, 0));
            H.index("whole(0, 0) behind " + faulty, () -> x.whole(0, 0));
            H.goodRead(x, "S", 1);
            x.choose(0);
            H.same("trees and sentence behind " + faulty, trees, Harness.everything(x));
        }
    }

    // Promise 6: a LABEL that no tree has, or none of an initial tree's node 0: no way, no fault.
    private static void readLabelOfNoTree() {
        TreeJoiner x = Harness.with("S(a A! B(b))", "C(c C*)");
        Harness.sentence(x, "a");
        for (String label : new String[] {"D", "A", "B", "C", "SS"}) {
            H.goodRead(x, label, 0);
            H.index("choose(0) as " + label, () -> x.choose(0));
        }
        H.same("LABELs", 4, x.count(1));
        Harness.sentence(x, "a b");
        H.goodRead(x, "S", 0);
    }

    // No trees, or no words: no way.
    private static void readWithoutTreesOrWords() {
        TreeJoiner x = new TreeJoiner();
        H.goodRead(x, "S", 0);
        H.goodSentence(x, "a", 1);
        H.goodRead(x, "S", 0);
        H.goodTree(x, "S(a)");
        H.goodRead(x, "S", 1);
        H.goodSentence(x, "", 0);
        H.goodRead(x, "S", 0);
        H.index("choose(0)", () -> x.choose(0));
    }

    // Promise 6: "No way is chosen."
    private static void noWayIsChosen() {
        for (String label : new String[] {"S", "T"}) {
            TreeJoiner x = chosen();
            H.goodRead(x, label, label.equals("S") ? 1 : 0);
            H.same("uses", 0, x.count(5));
            H.same("nodes", 0, x.count(6));
            H.index("use(0, 0)", () -> x.use(0, 0));
            H.index("whole(0, 0)", () -> x.whole(0, 0));
        }
    }

    // Promise 13: "All trees, LABELs and WORDs go".
    private static void clearAllGo() {
        TreeJoiner x = chosen();
        x.clear();
        H.same("counts", "0 0 0 2 -1 0 0 0\n", Harness.state(x));
        H.index("node(0, 0, 0)", () -> x.node(0, 0, 0));
        H.index("letter(false, 0, 0)", () -> x.letter(false, 0, 0));
        H.index("letter(true, 0, 0)", () -> x.letter(true, 0, 0));
        H.goodRead(x, "S", 0);
        H.goodTree(x, "B(b S!)");
        H.same("LABELs begin anew", "B", Harness.name(x, false, 0, 1));
        H.same("WORDs begin anew", "b", Harness.name(x, true, 0, 1));
        H.same("trees begin anew", "0 0 -1 2 0\n3 0 0 0 0\n1 1 0 0 0\n", Harness.nodes(x, 0, 3));
        H.index("node(0, 3, 0)", () -> x.node(0, 3, 0));
    }

    // Promise 13: "the sentence stays, but was not read".
    private static void clearTheSentenceStays() {
        TreeJoiner x = chosen();
        x.clear();
        H.same("words", 2, x.count(3));
        H.same("ways", TreeJoiner.NONE, x.count(4));
        H.state("choose(0)", () -> x.choose(0));
        H.index("use(0, 0)", () -> x.use(0, 0));
        H.index("whole(0, 0)", () -> x.whole(0, 0));
        H.goodTree(x, "S(a b)");
        H.goodRead(x, "S", 1);
        TreeJoiner y = new TreeJoiner();
        H.goodSentence(y, "", 0);
        H.goodRead(y, "S", 0);
        y.clear();
        H.same("ways behind clear without trees", TreeJoiner.NONE, y.count(4));
    }

    // Promise 13: "how many trees there were".
    private static void clearHowMany() {
        TreeJoiner x = new TreeJoiner();
        for (int many : new int[] {0, 1, 2, 15, 16, 0}) {
            for (int t = 0; t < many; t++) {
                H.goodTree(x, "S(a)");
            }
            H.same("clear of " + many, many, x.clear());
        }
        for (int t = 0; t < 17; t++) {
            Harness.tree(x, "S(a)");
        }
        H.same("clear behind a 17th", 16, x.clear());
    }

    // Promise 14: "what = 0 trees, ... 6 nodes of the whole tree", at their least and their most.
    private static void countEach() {
        H.same("the least", "0 0 0 0 -1 0 0 0\n", Harness.state(new TreeJoiner()));
        TreeJoiner x = Harness.full();
        Harness.read(x, "O");
        H.same("ways", 10000000, x.count(4));
        x.choose(0);
        H.same("the most", "16 16 32 8 10000000 8 16 0", Harness.state(x).split("\n")[0]);
        TreeJoiner y = chosen();
        Harness.read(y, "T");
        H.same("read in no way", 0, y.count(4));
    }

    // Promise 14: "IllegalArgumentException": what is none of these.
    private static void countWhat() {
        for (TreeJoiner x : new TreeJoiner[] {new TreeJoiner(), chosen()}) {
            for (int what : new int[] {-1, 7, 8, Integer.MIN_VALUE, Integer.MAX_VALUE}) {
                H.argument("count(" + what + ")", () -> x.count(what));
            }
        }
    }
}
