/** Promises 4, 7, 11 and 12: tree, fault, node, letter. */
public final class TreeTest {
    private static final Harness H = new Harness("TreeTest");

    public static void main(String[] args) {
        faults();
        faultsThatComeFirst();
        tooManyNames();
        tooManyTrees();
        faultKeepsAllElse();
        treeUnreads();
        nodes();
        letters();
        H.done();
    }

    private static void faults() {
        TreeJoiner x = new TreeJoiner();
        // 1: no token, or too long a one.
        H.badTree(x, "S(a .)", 1, 4);
        H.badTree(x, "S(a \u000b)", 1, 4);
        H.badTree(x, "S(a \u0000)", 1, 4);
        H.badTree(x, "S(a1)", 1, 3);
        H.badTree(x, "9S(a)", 1, 0);
        H.badTree(x, "S(abcdefghijklm)", 1, 2);
        H.badTree(x, "S(ABCDEFGHI!a)", 1, 2);
        H.badTree(x, "S(A1234567A!a)", 1, 2);
        H.badTree(x, "S(a[)", 1, 3);
        H.badTree(x, "S(a@)", 1, 3);
        H.badTree(x, "S(a`)", 1, 3);
        H.badTree(x, "S(a{)", 1, 3);
        H.badTree(x, "S(a/)", 1, 3);
        H.badTree(x, "S(a,)", 1, 3);
        H.badTree(x, "S/(a)", 1, 1);
        H.badTree(x, "S:(a)", 1, 1);
        H.badTree(x, "S[(a)", 1, 1);
        H.badTree(x, "S@(a)", 1, 1);
        // 2: it cannot stand there, or the text ends too soon.
        H.badTree(x, "   ", 2, 3);
        H.badTree(x, "S", 2, 1);
        H.badTree(x, "S  ", 2, 3);
        H.badTree(x, "S+", 2, 2);
        H.badTree(x, "S(a \n", 2, 5);
        H.badTree(x, "S(a B", 2, 5);
        H.badTree(x, "S(a B-", 2, 6);
        H.badTree(x, "S(a B)", 2, 5);
        H.badTree(x, "S a", 2, 2);
        H.badTree(x, "Sa(b)", 2, 1);
        H.badTree(x, "S+!", 2, 2);
        H.badTree(x, "S-*", 2, 2);
        H.badTree(x, "S+-(a)", 2, 2);
        H.badTree(x, "S(a(b))", 2, 3);
        H.badTree(x, "S(a!)", 2, 3);
        H.badTree(x, "S(a)!", 2, 4);
        H.badTree(x, "S(a))", 2, 4);
        H.badTree(x, "S(a)(b)", 2, 4);
        H.badTree(x, "S((a))", 2, 2);
        H.badTree(x, "S(A!+ a)", 2, 4);
        H.badTree(x, "S(A()a)", 2, 4);
        H.badTree(x, "a b", 2, 2);
        H.badTree(x, "!", 2, 0);
        H.badTree(x, " )", 2, 1);
        // 4 to 8, of a text that is a NODE.
        H.badTree(x, "  a", 4, 0);
        H.badTree(x, " S !", 4, 0);
        H.badTree(x, "S*", 4, 0);
        H.badTree(x, "S(a S* S* S*)", 5, 7);
        H.badTree(x, "S(S(S*) a  T*)", 5, 11);
        H.badTree(x, "S(a T* S*)", 5, 7);
        H.badTree(x, "S(S* S*)", 5, 5);
        H.badTree(x, "S(a B(T *))", 6, 6);
        H.badTree(x, "S(T*)", 6, 2);
        H.badTree(x, "  S(S*)", 7, 0);
        H.badTree(x, "S(A(B!))", 7, 0);
        H.same("nothing of these is kept", "0 0 0 0 -1 0 0 7\n", Harness.state(x));
        H.goodTree(x, "\t\n\r S\t(\na\r)  ");
        H.goodTree(x, "S-(A+(B!aB(b))S * A1!)");
        H.goodTree(x, "ABCDEFGH(abcdefghijkl)");
        H.goodTree(x, "Z0123456(z)");
        H.goodTree(x, "S(S(S(S(S(S(S(S(S(S(S(a)))))))))))");
        H.badTree(x, "S(S(S(S(S(S(S(S(S(S(S(S(a))))))))))))", 3, 24);
        H.badTree(x, "S(a a a a a a a a a a a a)", 3, 24);
        H.badTree(x, "S(a a a a a a a a a a a A!)", 3, 24);
    }

    private static void faultsThatComeFirst() {
        TreeJoiner x = new TreeJoiner();
        H.badTree(x, "S(a ) ) .", 2, 6);
        H.badTree(x, "S(a . ) )", 1, 4);
        H.badTree(x, "S(a a a a a a a a a a a a .", 3, 24);
        H.badTree(x, "S(a a a a a a a a a a a abcdefghijklm", 1, 24);
        H.badTree(x, "S(a a a a a a a a a a a !", 2, 24);
        H.badTree(x, "S(a a a a a a a a a a a B .)", 3, 24);
        H.badTree(x, "a abcdefghijklm", 1, 2);
        H.badTree(x, "S(T* S*) a", 2, 9);
        H.badTree(x, "a .", 1, 2);
        H.badTree(x, "T!!", 2, 2);
    }

    private static void tooManyNames() {
        TreeJoiner x = new TreeJoiner();
        H.goodTree(x, "A(B!C!D!E!F!G!H!I!J!K!a)");
        H.goodTree(x, "A(L!M!N!O!B!b)");
        H.same("labels", 15, x.count(1));
        H.badTree(x, "A(P! Q! a)", 3, 5);
        H.badTree(x, "P(Q(a))", 3, 2);
        H.same("labels are not kept", 15, x.count(1));
        H.goodTree(x, "P(A! P! a)");
        H.same("labels", 16, x.count(1));
        H.badTree(x, "Q(a)", 3, 0);
        H.badTree(x, "AA!", 3, 0);
        H.goodTree(x, "A(c d e f g h i j k l m)");
        H.goodTree(x, "A(n o p q r s t u v w x)");
        H.goodTree(x, "A(y z aa ab ac ad a b c d e)");
        H.same("words", 30, x.count(2));
        H.badTree(x, "A(ae a ae af a ag)", 3, 15);
        H.same("words are not kept", 30, x.count(2));
        H.goodTree(x, "A(ae af ae a)");
        H.same("words", 32, x.count(2));
        H.badTree(x, "A(a b ag)", 3, 6);
        H.badTree(x, "ag", 3, 0);
        H.goodTree(x, "A(a)");
    }

    private static void tooManyTrees() {
        TreeJoiner x = new TreeJoiner();
        for (int i = 0; i < 16; i++) {
            H.goodTree(x, "S(a S(b))");
        }
        H.badTree(x, "S(a)", 8, 0);
        H.badTree(x, "  T(c)", 8, 0);
        H.same("no tree, LABEL, WORD more", "16 1 2 0 -1 0 0 8\n", Harness.state(x));
        H.badTree(x, "S(A!)", 7, 0);
        H.badTree(x, "S(a T*)", 6, 4);
        H.badTree(x, "S(a S*S*)", 5, 6);
        H.badTree(x, "b", 4, 0);
        H.badTree(x, "S(a a a a a a a a a a a a)", 3, 24);
        H.badTree(x, "S(", 2, 2);
        H.badTree(x, "#", 1, 0);
        H.same("the last tree stays", "0 0 -1 2 0\n3 0 0 0 0\n0 0 0 1 0\n3 1 2 0 0\n",
                Harness.nodes(x, 15, 4));
        H.index("node(16, 0, 0)", () -> x.node(16, 0, 0));
        H.same("clear", 16, x.clear());
        H.goodTree(x, "T(c)");
    }

    private static void faultKeepsAllElse() {
        TreeJoiner x = Harness.with("S(a)", "S(S* a)");
        Harness.sentence(x, "a a");
        Harness.read(x, "S");
        x.choose(0);
        String before = Harness.uses(x) + Harness.whole(x);
        H.badTree(x, "S(b T(c))d", 2, 9);
        H.badTree(x, "T(b S*)", 6, 4);
        H.same("the way stays", before, Harness.uses(x) + Harness.whole(x));
        H.same("ways stay", 1, x.count(4));
        H.same("labels stay", 1, x.count(1));
        H.same("words stay", 1, x.count(2));
        H.same("choose again", 2, x.choose(0));
        H.same("fault stays behind other calls", 6, x.fault());
    }

    private static void treeUnreads() {
        TreeJoiner x = Harness.with("S(a)");
        Harness.sentence(x, "a");
        Harness.read(x, "S");
        x.choose(0);
        H.goodTree(x, "S(a)");
        H.same("the sentence was not read", "2 1 1 1 -1 0 0 0\n", Harness.state(x));
        H.state("choose behind tree", () -> x.choose(0));
        H.index("use behind tree", () -> x.use(0, 0));
        H.index("whole behind tree", () -> x.whole(0, 0));
        H.same("it is read again", 2, Harness.read(x, "S"));
    }

    private static void nodes() {
        TreeJoiner x = Harness.with("S(NP! VP+(saw NP-(the dog)) S*)", "NP(dog S!)");
        H.same("nodes of tree 0",
                "0 0 -1 3 0\n1 1 0 0 0\n0 2 0 2 1\n3 0 2 0 0\n0 1 2 2 2\n"
                + "3 1 4 0 0\n3 2 4 0 0\n2 0 0 0 0\n", Harness.nodes(x, 0, 8));
        H.same("nodes of tree 1", "0 1 -1 2 0\n3 2 0 0 0\n1 0 0 0 0\n", Harness.nodes(x, 1, 3));
        H.index("node(0, 8, 0)", () -> x.node(0, 8, 0));
        H.index("node(1, 3, 0)", () -> x.node(1, 3, 0));
        H.index("node(2, 0, 0)", () -> x.node(2, 0, 0));
        H.index("node(-1, 0, 0)", () -> x.node(-1, 0, 0));
        H.index("node(0, -1, 0)", () -> x.node(0, -1, 0));
        H.index("node(0, 8, 5): the index first", () -> x.node(0, 8, 5));
        H.index("node(lowest)", () -> x.node(Integer.MIN_VALUE, Integer.MIN_VALUE, 0));
        H.index("node(highest)", () -> x.node(Integer.MAX_VALUE, Integer.MAX_VALUE, 0));
        H.argument("node(0, 0, 5)", () -> x.node(0, 0, 5));
        H.argument("node(0, 0, -1)", () -> x.node(0, 0, -1));
        H.argument("node(1, 2, highest)", () -> x.node(1, 2, Integer.MAX_VALUE));
    }

    private static void letters() {
        TreeJoiner x = Harness.with("S(NP! saw B12345AZ!)", "NP(dog abcdefghijkl saw)");
        H.same("LABEL 0", "S", Harness.name(x, false, 0, 1));
        H.same("LABEL 1", "NP", Harness.name(x, false, 1, 2));
        H.same("LABEL 2", "B12345AZ", Harness.name(x, false, 2, 8));
        H.same("WORD 0", "saw", Harness.name(x, true, 0, 3));
        H.same("WORD 1", "dog", Harness.name(x, true, 1, 3));
        H.same("WORD 2", "abcdefghijkl", Harness.name(x, true, 2, 12));
        H.index("letter(false, 0, 1)", () -> x.letter(false, 0, 1));
        H.index("letter(false, 1, 2)", () -> x.letter(false, 1, 2));
        H.index("letter(false, 2, 8)", () -> x.letter(false, 2, 8));
        H.index("letter(false, 3, 0)", () -> x.letter(false, 3, 0));
        H.index("letter(true, 2, 12)", () -> x.letter(true, 2, 12));
        H.index("letter(true, 3, 0)", () -> x.letter(true, 3, 0));
        H.index("letter(true, -1, 0)", () -> x.letter(true, -1, 0));
        H.index("letter(true, 0, -1)", () -> x.letter(true, 0, -1));
        H.index("letter(true, 0, highest)", () -> x.letter(true, 0, Integer.MAX_VALUE));
        H.index("letter(false, highest, 0)", () -> x.letter(false, Integer.MAX_VALUE, 0));
        Harness.sentence(x, "cat");
        Harness.read(x, "T");
        H.index("the sentence's words are none of trees", () -> x.letter(true, 3, 0));
        H.index("a LABEL that is read is none of trees", () -> x.letter(false, 3, 0));
        Harness.tree(x, "CAT(cat(");
        H.index("a faulty tree's LABEL", () -> x.letter(false, 3, 0));
        H.index("a faulty tree's WORD", () -> x.letter(true, 3, 0));
    }
}
