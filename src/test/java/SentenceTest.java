/** Promises 5, 6, 7, 13 and 14: sentence, read, fault, clear, count. */
public final class SentenceTest {
    private static final Harness H = new Harness("SentenceTest");

    public static void main(String[] args) {
        sentences();
        sentenceFaultKeepsAllElse();
        sentenceUnreads();
        labels();
        readFaultUnreads();
        words();
        clear();
        counts();
        H.done();
    }

    private static void sentences() {
        TreeJoiner x = new TreeJoiner();
        H.same("no word", 0, Harness.sentence(x, ""));
        H.same("blanks", 0, Harness.sentence(x, " \t\r\n "));
        H.same("its fault", 0, x.fault());
        H.same("one word", 1, Harness.sentence(x, "abcdefghijkl"));
        H.same("eight words", 8, Harness.sentence(x, "\na b\tc\rd\ne  f g h "));
        H.same("eight are counted", 8, x.count(3));
        H.badSentence(x, "a b c d e f g h i", 3, 16);
        H.badSentence(x, "a b c d e f g h i .", 3, 16);
        H.badSentence(x, "a b c d e f g h I", 2, 16);
        H.badSentence(x, "a b c d e f g h abcdefghijklm", 1, 16);
        H.goodSentence(x, "a b c d e f g h", 8);
        H.badSentence(x, "a abcdefghijklm", 1, 2);
        H.badSentence(x, "a ABCDEFGHI", 1, 2);
        H.badSentence(x, "a b1", 1, 3);
        H.badSentence(x, "aB", 2, 1);
        H.badSentence(x, "a (b", 2, 2);
        H.badSentence(x, "a b!", 2, 3);
        H.badSentence(x, " *", 2, 1);
        H.badSentence(x, "a + .", 2, 2);
        H.badSentence(x, "a . +", 1, 2);
        H.badSentence(x, "\u00e4", 1, 0);
        H.same("eight stay", 8, x.count(3));
    }

    private static void sentenceFaultKeepsAllElse() {
        TreeJoiner x = Harness.with("S(a)", "S(S* b)");
        Harness.sentence(x, "a b");
        Harness.read(x, "S");
        x.choose(0);
        String before = Harness.uses(x) + Harness.whole(x);
        H.badSentence(x, "b b b .", 1, 6);
        H.same("the way stays", before, Harness.uses(x) + Harness.whole(x));
        H.same("ways stay", 1, x.count(4));
        H.same("words stay", 2, x.count(3));
        H.same("the words themselves stay", 1, Harness.read(x, "S"));
    }

    private static void sentenceUnreads() {
        TreeJoiner x = Harness.with("S(a)");
        Harness.sentence(x, "a");
        Harness.read(x, "S");
        x.choose(0);
        Harness.sentence(x, "a");
        H.same("the sentence was not read", "1 1 1 1 -1 0 0 0\n", Harness.state(x));
        H.state("choose behind sentence", () -> x.choose(0));
    }

    private static void labels() {
        TreeJoiner x = Harness.with("S(a)", "T(a T*)", "ABCDEFG8(a)", "R-(S!S!a)");
        Harness.sentence(x, "a");
        H.same("read S", 1, Harness.read(x, " S\n"));
        H.same("its fault", 0, x.fault());
        H.same("ways", 1, x.count(4));
        H.same("read ABCDEFG8", 1, Harness.read(x, "ABCDEFG8"));
        H.same("an auxiliary tree is none of the whole", 0, Harness.read(x, "T"));
        H.same("ways", 0, x.count(4));
        H.same("a LABEL that no tree has", 0, Harness.read(x, "Q"));
        H.same("is no fault", 0, x.fault());
        H.same("ways", 0, x.count(4));
        H.same("and is not kept", 4, x.count(1));
        H.index("choose without a way", () -> x.choose(0));
        H.badRead(x, "", 2, 0);
        H.badRead(x, "  ", 2, 2);
        H.badRead(x, "s", 2, 0);
        H.badRead(x, "S S", 2, 2);
        H.badRead(x, "Ss", 2, 1);
        H.badRead(x, "S!", 2, 1);
        H.badRead(x, "(S", 2, 0);
        H.badRead(x, "S .", 1, 2);
        H.badRead(x, "S ABCDEFGHI", 1, 2);
        H.badRead(x, "ABCDEFGHI", 1, 0);
        H.badRead(x, "?", 1, 0);
        H.badRead(x, "abcdefghijklm", 1, 0);
        Harness.sentence(x, "");
        H.same("no words are read by no tree", 0, Harness.read(x, "S"));
    }

    private static void readFaultUnreads() {
        TreeJoiner x = Harness.with("S(a)");
        Harness.sentence(x, "a");
        Harness.read(x, "S");
        x.choose(0);
        Harness.read(x, "S");
        H.same("no way is chosen", "1 1 1 1 1 0 0 0\n", Harness.state(x));
        x.choose(0);
        Harness.read(x, "!");
        H.same("it was not read", "1 1 1 1 -1 0 0 2\n", Harness.state(x));
        H.state("choose behind a fault of read", () -> x.choose(0));
    }

    private static void words() {
        TreeJoiner x = new TreeJoiner();
        Harness.sentence(x, "cat catt");
        Harness.tree(x, "S(cat catt)");
        H.same("words may come before the trees", 1, Harness.read(x, "S"));
        Harness.sentence(x, "catt cat");
        H.same("in another order", 0, Harness.read(x, "S"));
        Harness.sentence(x, "cat cat");
        H.same("a word that begins the other", 0, Harness.read(x, "S"));
        Harness.sentence(x, "cat catt dog");
        H.same("a word that no tree has", 0, Harness.read(x, "S"));
        Harness.sentence(x, "cat");
        H.same("too few words", 0, Harness.read(x, "S"));
    }

    private static void clear() {
        TreeJoiner x = Harness.with("S(a)", "T(b)");
        Harness.sentence(x, "b");
        Harness.read(x, "T");
        x.choose(0);
        Harness.tree(x, "#");
        Harness.put(x, "T(b)");
        H.same("clear", 2, x.clear());
        H.same("what is left", "0 0 0 1 -1 0 0 1\n", Harness.state(x));
        H.state("choose behind clear", () -> x.choose(0));
        H.index("node behind clear", () -> x.node(0, 0, 0));
        H.index("a LABEL behind clear", () -> x.letter(false, 0, 0));
        H.index("a WORD behind clear", () -> x.letter(true, 0, 0));
        H.same("the tape stays", 0, x.tree());
        H.same("LABELs are numbered anew", "T", Harness.name(x, false, 0, 1));
        H.same("the sentence stays", 1, Harness.read(x, "T"));
        H.same("clear", 1, x.clear());
        H.same("clear without trees", 0, x.clear());
    }

    private static void counts() {
        TreeJoiner x = Harness.with("S(NP! VP(saw NP!))", "NP(the dog)", "NP(a cat)", "VP(VP* today)");
        H.same("counts", "4 3 6 0 -1 0 0 0\n", Harness.state(x));
        Harness.sentence(x, "the dog saw a cat today");
        H.same("words of the sentence", 6, x.count(3));
        H.same("ways before read", -1, x.count(4));
        Harness.read(x, "S");
        H.same("ways", 1, x.count(4));
        H.same("uses before choose", 0, x.count(5));
        H.same("nodes before choose", 0, x.count(6));
        x.choose(0);
        H.same("uses", 4, x.count(5));
        H.same("nodes", 11, x.count(6));
        H.argument("count(7)", () -> x.count(7));
        H.argument("count(-1)", () -> x.count(-1));
        H.argument("count(lowest)", () -> x.count(Integer.MIN_VALUE));
        H.argument("count(highest)", () -> x.count(Integer.MAX_VALUE));
    }
}
