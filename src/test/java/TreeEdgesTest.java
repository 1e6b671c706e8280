/** The edges of promises 4, 7, 11 and 12, of "Terms" and of FAULTS, sentence by sentence. */
public final class TreeEdgesTest {
    private static final Harness H = new Harness("TreeEdgesTest");

    public static void main(String[] args) {
        oneNodeOrMore();
        perhapsAMark();
        nothingBehind();
        endsTooSoon();
        theFirstOf1To3();
        the13thNode();
        the17thLabel();
        the33rdWord();
        eachCountedOnce();
        firstNodeNotInner();
        secondFoot();
        labelOfTheFoot();
        noWord();
        sixteenTrees();
        theLeastOf4To8();
        aTreeWithAFaultIsNotKept();
        thenAllElseStays();
        aTreeMoreWasNotRead();
        theLatestFault();
        noSuchTreeOrNode();
        whatOfANode();
        noSuchByte();
        H.done();
    }

    // "in ( ) one NODE or more, its PARTS".
    private static void oneNodeOrMore() {
        TreeJoiner x = new TreeJoiner();
        H.badTree(x, "S()", 2, 2);
        H.badTree(x, "S(a B( ))", 2, 7);
        H.goodTree(x, "S(a)");
        H.same("one part", 1, x.node(0, 0, 3));
        H.goodTree(x, "S(a b c d e f g h i j k)");
        H.same("eleven parts", 11, x.node(1, 0, 3));
    }

    // "a LABEL, perhaps + (it MUST be set into) or - (it CANNOT be), and in ( ) ...".
    private static void perhapsAMark() {
        TreeJoiner x = new TreeJoiner();
        H.goodTree(x, "S(a)");
        H.goodTree(x, "S + (a)");
        H.goodTree(x, "S-\n(a)");
        H.same("marks", "0 1 2", x.node(0, 0, 4) + " " + x.node(1, 0, 4) + " " + x.node(2, 0, 4));
        for (String two : new String[] {"++", "--", "+-", "-+", "+!", "+*", "-!", "-*", "!*", "*!",
            "!!", "**", "!+", "*-", "!(", "*("}) {
            H.badTree(x, "S(a B" + two + "(c))", 2, 6);
        }
        H.badTree(x, "S(a B+)", 2, 6);
        H.badTree(x, "S(a +)", 2, 4);
        H.badTree(x, "S(a)+", 2, 4);
        H.badTree(x, "S(a!)", 2, 3);
        H.badTree(x, "S(a(b))", 2, 3);
    }

    // "A TREE is a NODE and nothing behind".
    private static void nothingBehind() {
        TreeJoiner x = new TreeJoiner();
        H.goodTree(x, "S(a) \t\r\n");
        for (String more : new String[] {"a", "S", "(", ")", "!", "*", "+", "-", "S(a)"}) {
            H.badTree(x, "S(a)  " + more, 2, 6);
            H.badTree(x, "a  " + more, 2, 3);
        }
        H.badTree(x, "S(a).", 1, 4);
        H.badTree(x, "S(a) ABCDEFGHI", 1, 5);
        H.badTree(x, "S!!", 2, 2);
        H.badTree(x, "S* S", 2, 3);
    }

    // "2: ... (a text that ends too soon: at the end)".
    private static void endsTooSoon() {
        TreeJoiner x = new TreeJoiner();
        String whole = "S+(A-(a)B!S*b)";
        for (int bytes = 0; bytes < whole.length(); bytes++) {
            H.badTree(x, whole.substring(0, bytes), 2, bytes);
            H.badTree(x, whole.substring(0, bytes) + " \n", 2, bytes + 2);
        }
        H.goodTree(x, whole);
    }

    // "of 1 to 3 the one that comes first on the tape".
    private static void theFirstOf1To3() {
        TreeJoiner x = new TreeJoiner();
        String twelve = "S(a a a a a a a a a a a ";
        H.badTree(x, "S(. )) ", 1, 2);
        H.badTree(x, "S() .", 2, 2);
        H.badTree(x, twelve + ". a)", 1, 24);
        H.badTree(x, twelve + "a .)", 3, 24);
        H.badTree(x, twelve + "! a)", 2, 24);
        H.badTree(x, twelve + "a !)", 3, 24);
        H.badTree(x, twelve + "B", 3, 24);
        H.badTree(x, twelve + "ABCDEFGHI!)", 1, 24);
        H.badTree(x, twelve + ") a", 2, 26);
        // They come before 4 to 8, wherever these are.
        H.badTree(x, "a .", 1, 2);
        H.badTree(x, "a a", 2, 2);
        H.badTree(x, "S(A* B*) !", 2, 9);
        H.badTree(x, "S(A* B* C* D* E* F* G* H* I* J* K* L*)", 3, 35);
    }

    // "3: too many: the 13th NODE".
    private static void the13thNode() {
        TreeJoiner x = new TreeJoiner();
        H.goodTree(x, "S(a a a a a a a a a a a)");
        H.badTree(x, "S(a a a a a a a a a a a a)", 3, 24);
        H.goodTree(x, "S(a a a a a a a a a a A!)");
        H.badTree(x, "S(a a a a a a a a a a a A!)", 3, 24);
        H.goodTree(x, "S(a a a a a a a a a a S*)");
        H.badTree(x, "S(a a a a a a a a a a a S*)", 3, 24);
        H.goodTree(x, "S(a a a a a a a a a A(a))");
        H.badTree(x, "S(a a a a a a a a a a A(a))", 3, 24);
        H.goodTree(x, "S(".repeat(11) + "a" + ")".repeat(11));
        H.badTree(x, "S(".repeat(12) + "a" + ")".repeat(12), 3, 24);
        H.badTree(x, "S(".repeat(500), 3, 24);
        H.goodTree(x, "S(S(a)S(a)S(a)S(a)S(a)a)");
        H.badTree(x, "S(S(a)S(a)S(a)S(a)S(a)a a)", 3, 24);
        H.same("node 11 is there", 3, x.node(4, 11, 0));
        H.index("node 12 is not", () -> x.node(4, 12, 0));
    }

    private static TreeJoiner withLabels(int many) {
        TreeJoiner x = new TreeJoiner();
        for (int i = 0; i < many; i++) {
            Harness.tree(x, "L" + i + "(a)");
        }
        H.same("LABELs", many, x.count(1));
        return x;
    }

    // "a LABEL that would be the 17th ... one of all trees".
    private static void the17thLabel() {
        TreeJoiner x = withLabels(14);
        H.badTree(x, "L0(A! B! C! a)", 3, 9);
        H.badTree(x, "A(B(C(a)))", 3, 4);
        H.badTree(x, "A(B(a C*))", 3, 6);
        H.same("LABELs behind faults", 14, x.count(1));
        H.goodTree(x, "A(L0! B! a)");
        H.same("LABELs", 16, x.count(1));
        H.badTree(x, "C(a)", 3, 0);
        H.badTree(x, "C!", 3, 0);
        H.badTree(x, "L1(a L2! C.", 3, 9);
        // Where no LABEL can stand, it is none too many.
        H.badTree(x, "L1(a) C", 2, 6);
        H.badTree(x, "L1 C", 2, 3);
        H.goodRead(x, "C", 0);
        H.same("LABELs", 16, x.count(1));
        // The sixteen themselves are no more.
        H.same("clear", 15, x.clear());
        H.goodTree(x, "C(D!E!F!G!H!I!J!K!L!M!a)");
        H.goodTree(x, "C(N!O!P!Q!R!C!a)");
        H.badTree(x, "C(S!a)", 3, 2);
    }

    // "a WORD that would be the 33rd one of all trees".
    private static void the33rdWord() {
        TreeJoiner x = Harness.with("S(a b c d e f g h i j k)", "S(l m n o p q r s t u v)",
                "S(w x y z aa bb cc dd)");
        H.same("WORDs", 30, x.count(2));
        H.badTree(x, "S(ee ff gg)", 3, 8);
        H.badTree(x, "ee ff", 2, 3);
        H.same("WORDs behind faults", 30, x.count(2));
        H.goodTree(x, "S(ee a ff b)");
        H.same("WORDs", 32, x.count(2));
        H.badTree(x, "S(gg)", 3, 2);
        H.badTree(x, "gg", 3, 0);
        H.badTree(x, "S(a S(b gg .", 3, 8);
        H.badTree(x, "S(a) gg", 2, 5);
        H.goodTree(x, "S(ff ee dd)");
        // Words of a sentence are none of trees.
        H.goodSentence(x, "gg hh", 2);
        H.same("WORDs", 32, x.count(2));
        H.same("clear", 5, x.clear());
        H.goodTree(x, "S(gg)");
    }

    // "(each counted once)".
    private static void eachCountedOnce() {
        TreeJoiner x = Harness.with("A(A!A!A*A!a a a)", "A(a A(a A!))");
        H.same("LABELs", 1, x.count(1));
        H.same("WORDs", 1, x.count(2));
        TreeJoiner y = withLabels(15);
        H.goodTree(y, "B(B! B! B(a b b))");
        H.same("LABELs", 16, y.count(1));
        H.same("WORDs", 2, y.count(2));
        // A LABEL and a WORD that begin another one are others.
        TreeJoiner z = Harness.with("A(AA! AAA! a aa aaa)");
        H.same("LABELs", 3, z.count(1));
        H.same("WORDs", 3, z.count(2));
    }

    // "4 at 0: the tree's first NODE is not an inner one."
    private static void firstNodeNotInner() {
        TreeJoiner x = new TreeJoiner();
        H.badTree(x, "a", 4, 0);
        H.badTree(x, "A!", 4, 0);
        H.badTree(x, "A*", 4, 0);
        H.badTree(x, " \n a", 4, 0);
        H.badTree(x, "  A  !  ", 4, 0);
        H.goodTree(x, "A(a)");
    }

    // "5 at the second foot."
    private static void secondFoot() {
        TreeJoiner x = new TreeJoiner();
        H.goodTree(x, "S(a S*)");
        H.badTree(x, "S(a S* S*)", 5, 7);
        H.badTree(x, "S(a S* S* S*)", 5, 7);
        H.badTree(x, "S(S(a S*) A(B(S  *)) S*)", 5, 14);
        H.badTree(x, "S(S *S *a)", 5, 5);
    }

    // "6 at the foot: its label is not that of node 0."
    private static void labelOfTheFoot() {
        TreeJoiner x = new TreeJoiner();
        H.badTree(x, "S(a SS*)", 6, 4);
        H.badTree(x, "SS(a S*)", 6, 5);
        H.badTree(x, "S(a A(A \t*))", 6, 6);
        H.goodTree(x, "S(a A(S*))");
        H.goodTree(x, "A(a S(A*))");
    }

    // "7 at 0: it has no WORD."
    private static void noWord() {
        TreeJoiner x = new TreeJoiner();
        H.badTree(x, "S(A!)", 7, 0);
        H.badTree(x, " S(S*)", 7, 0);
        H.badTree(x, "S(A(B!)C(D!E!)S*)", 7, 0);
        H.goodTree(x, "S(A(B!)C(D!E(a))S*)");
    }

    private static TreeJoiner withSixteen() {
        TreeJoiner x = new TreeJoiner();
        for (int t = 0; t < 16; t++) {
            H.goodTree(x, "S(a)");
        }
        return x;
    }

    // "8 at 0: there are 16 trees."
    private static void sixteenTrees() {
        TreeJoiner x = withSixteen();
        H.badTree(x, "S(a)", 8, 0);
        H.badTree(x, "  T(b)", 8, 0);
        H.same("trees", 16, x.count(0));
        H.same("LABELs", 1, x.count(1));
        H.same("WORDs", 1, x.count(2));
        H.goodSentence(x, "a", 1);
        H.goodRead(x, "S", 16);
        H.badTree(x, "S(a)", 8, 0);
        H.same("it is still read", 16, x.count(4));
        x.choose(15);
        H.same("the last tree", 15, x.use(0, 0));
        H.same("clear", 16, x.clear());
        H.goodTree(x, "T(b)");
        H.same("trees", 1, x.count(0));
    }

    // "(The least code of 4 to 8. ...)": each with those above it that it can meet.
    private static void theLeastOf4To8() {
        TreeJoiner x = withSixteen();
        H.badTree(x, "A!", 4, 0);
        H.badTree(x, "a", 4, 0);
        H.badTree(x, "S(A* B*)", 5, 5);
        H.badTree(x, "S(a S* S*)", 5, 7);
        H.badTree(x, "S(A*)", 6, 2);
        H.badTree(x, "S(a A*)", 6, 4);
        H.badTree(x, "S(S*)", 7, 0);
        H.badTree(x, "S(a S*)", 8, 0);
        TreeJoiner y = new TreeJoiner();
        H.badTree(y, "A!", 4, 0);
        H.badTree(y, "S(a A* B*)", 5, 7);
        H.badTree(y, "S(S* S*)", 5, 5);
        H.badTree(y, "S(A*)", 6, 2);
    }

    // "(... A tree with a fault, and its LABELs and WORDs, are not kept.)"
    private static void aTreeWithAFaultIsNotKept() {
        TreeJoiner x = Harness.with("S(a)");
        String before = Harness.everything(x);
        String[] faulty = {"T(b .", "T(b", "T(b c d e f g h i j k l m)", "b", "T!", "T(b T* T*)",
            "T(b S*)", "T(U!)"};
        int[] codes = {1, 2, 3, 4, 4, 5, 6, 7};
        for (int i = 0; i < faulty.length; i++) {
            Harness.tree(x, faulty[i]);
            H.same("fault of " + faulty[i], codes[i], x.fault());
            x.end(0);
            H.same("fault is left alone", codes[i], x.fault());
            H.same("what is kept of " + faulty[i], before.substring(before.indexOf('\n')),
                    Harness.everything(x).substring(before.indexOf('\n')));
            H.same("counts behind " + faulty[i], "1 1 1 0 -1 0 0 " + codes[i] + "\n",
                    Harness.state(x));
        }
        // Nor is any mark, foot or part of its nodes.
        H.badTree(x, "T+(U-(V+(T* d) e)", 2, 17);
        H.goodTree(x, "U(c S! a)");
        H.same("LABEL 1", "U", Harness.name(x, false, 1, 1));
        H.same("WORD 1", "c", Harness.name(x, true, 1, 1));
        H.same("its nodes", "0 1 -1 3 0\n3 1 0 0 0\n1 0 0 0 0\n3 0 0 0 0\n",
                Harness.nodes(x, 1, 4));
        H.index("no node more", () -> x.node(1, 4, 0));
        H.goodSentence(x, "c a a", 3);
        H.goodRead(x, "U", 1);
    }

    // Promise 4: "or -1 less the place of its fault: then all else stays".
    private static void thenAllElseStays() {
        for (String faulty : new String[] {"", ".", "S(b", "S(b b b b b b b b b b b b)", "b",
            "S(b S* S*)", "S(b T*)", "S(T!)"}) {
            TreeJoiner x = Harness.with("S(a)", "S(S* b)", "S(b S*)");
            Harness.sentence(x, "b a b");
            H.goodRead(x, "S", 2);
            x.choose(1);
            String before = Harness.everything(x);
            Harness.put(x, faulty);
            int answer = x.tree();
            int code = x.fault();
            H.same(faulty + " has a fault", 1, answer < 0 && code > 0 ? 1 : 0);
            H.same("all else behind " + faulty,
                    before.replaceFirst("0\n", code + "\n"), Harness.everything(x));
            H.same("the tape is empty", 20, x.feed(0, 0, 0, 0, 0));
            H.same("ways", 3, x.choose(0));
        }
    }

    // Promise 4: "its number, and the sentence was not read".
    private static void aTreeMoreWasNotRead() {
        TreeJoiner x = Harness.with("S(a)");
        Harness.sentence(x, "a");
        H.goodRead(x, "S", 1);
        x.choose(0);
        H.goodTree(x, "T(b)");
        H.same("counts", "2 2 2 1 -1 0 0 0\n", Harness.state(x));
        H.state("choose", () -> x.choose(0));
        H.index("use", () -> x.use(0, 0));
        H.index("whole", () -> x.whole(0, 0));
        H.same("the tape is empty", 20, x.feed(0, 0, 0, 0, 0));
    }

    // Promise 7: "The code of the fault of the latest tree(), sentence() or read(); 0 without one."
    private static void theLatestFault() {
        TreeJoiner x = new TreeJoiner();
        H.same("fault of a new object", 0, x.fault());
        H.badTree(x, "a", 4, 0);
        H.goodTree(x, "S(a)");
        H.badSentence(x, "a a a a a a a a a", 3, 16);
        H.goodSentence(x, "a", 1);
        H.badRead(x, ".", 1, 0);
        H.goodRead(x, "S", 1);
        H.badTree(x, "S(a A*)", 6, 4);
        H.goodSentence(x, "a", 1);
        H.badSentence(x, "S", 2, 0);
        H.goodRead(x, "S", 1);
        H.badRead(x, "S!", 2, 1);
        H.goodTree(x, "S(a)");
        H.badRead(x, "!", 2, 0);
        // No other call is one of these.
        x.feed(0, 0, 0, 0, 0);
        x.end(0);
        H.state("choose", () -> x.choose(0));
        H.argument("count(7)", () -> x.count(7));
        x.clear();
        H.same("fault", 2, x.fault());
    }

    // Promise 11: "IndexOutOfBoundsException: there is no such tree, node, ...".
    private static void noSuchTreeOrNode() {
        TreeJoiner none = new TreeJoiner();
        H.index("node(0, 0, 0) without trees", () -> none.node(0, 0, 0));
        TreeJoiner x = withSixteen();
        H.same("node(15, 1, 0)", 3, x.node(15, 1, 0));
        for (int t : new int[] {-1, 16, 17, Integer.MIN_VALUE, Integer.MAX_VALUE}) {
            H.index("node of tree " + t, () -> x.node(t, 0, 0));
            H.index("node of tree " + t + ", what = 5", () -> x.node(t, 0, 5));
        }
        for (int n : new int[] {-1, 2, 12, 13, Integer.MIN_VALUE, Integer.MAX_VALUE}) {
            H.index("node " + n, () -> x.node(15, n, 0));
            H.index("node " + n + ", what = -1", () -> x.node(15, n, -1));
            H.index("node " + n + " of tree 0", () -> x.node(0, n, 0));
        }
        x.clear();
        H.index("node(0, 0, 0) behind clear", () -> x.node(0, 0, 0));
    }

    // Promise 11: "what = 0 ... 4"; "IllegalArgumentException: what is none of these."
    private static void whatOfANode() {
        TreeJoiner x = Harness.with("S-(A! S* a A+(b))");
        H.same("the five of each", "0 0 -1 4 2\n1 1 0 0 0\n2 0 0 0 0\n3 0 0 0 0\n0 1 0 1 1\n"
                + "3 1 4 0 0\n", Harness.nodes(x, 0, 6));
        for (int what : new int[] {-1, 5, 6, 7, 8, Integer.MIN_VALUE, Integer.MAX_VALUE}) {
            H.argument("node(0, 0, " + what + ")", () -> x.node(0, 0, what));
            H.argument("node(0, 5, " + what + ")", () -> x.node(0, 5, what));
        }
    }

    // Promise 12: "Byte i of a LABEL, or of a WORD, of the trees. ...: there is none such."
    private static void noSuchByte() {
        TreeJoiner none = new TreeJoiner();
        H.index("LABEL 0 without trees", () -> none.letter(false, 0, 0));
        H.index("WORD 0 without trees", () -> none.letter(true, 0, 0));
        TreeJoiner x = Harness.with("ABCDEFGH(B! a abcdefghijkl)");
        H.same("byte 7", 'H', x.letter(false, 0, 7));
        H.same("byte 11", 'l', x.letter(true, 1, 11));
        for (int i : new int[] {-1, 8, 9, Integer.MIN_VALUE, Integer.MAX_VALUE}) {
            H.index("byte " + i + " of LABEL 0", () -> x.letter(false, 0, i));
        }
        for (int i : new int[] {-1, 12, 13, Integer.MIN_VALUE, Integer.MAX_VALUE}) {
            H.index("byte " + i + " of WORD 1", () -> x.letter(true, 1, i));
        }
        H.index("byte 1 of LABEL 1", () -> x.letter(false, 1, 1));
        H.index("byte 1 of WORD 0", () -> x.letter(true, 0, 1));
        for (int number : new int[] {-1, 2, 16, 32, Integer.MIN_VALUE, Integer.MAX_VALUE}) {
            H.index("LABEL " + number, () -> x.letter(false, number, 0));
            H.index("WORD " + number, () -> x.letter(true, number, 0));
        }
        TreeJoiner y = withLabels(16);
        H.same("LABEL 15", 'L', y.letter(false, 15, 0));
        H.same("LABEL 15", "L15", Harness.name(y, false, 15, 3));
        H.index("LABEL 16", () -> y.letter(false, 16, 0));
        TreeJoiner z = Harness.with("S(a b c d e f g h i j k)", "S(l m n o p q r s t u v)",
                "S(w x y z aa bb cc dd ee ff)");
        H.same("WORD 31", "ff", Harness.name(z, true, 31, 2));
        H.index("WORD 32", () -> z.letter(true, 32, 0));
    }
}
