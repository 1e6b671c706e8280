/** The sentences of "2 WAYS" on where nodes lie, on USES and on THE WHOLE TREE, worked by hand. */
public final class WholeTreeTest {
    private static final Harness H = new Harness("WholeTreeTest");

    public static void main(String[] args) {
        aWordLiesWhereThatWordIs();
        aFootLiesOverTheGap();
        aTreeLiesAsItsNode0();
        partsWithTheirOwnGap();
        behindAUseThoseAtItsNodes();
        inPlaceOfAnOpenNode();
        theNodeItselfWhereTheFootIs();
        H.done();
    }

    private static TreeJoiner read(String words, int ways, String... trees) {
        TreeJoiner x = Harness.with(trees);
        Harness.sentence(x, words);
        H.goodRead(x, "S", ways);
        return x;
    }

    private static void way(TreeJoiner x, int k, String[] uses, String[] whole) {
        H.same("choose(" + k + ")", uses.length, x.choose(k));
        H.same("uses", String.join("\n", uses) + "\n", Harness.uses(x));
        H.same("nodes", whole.length, x.count(6));
        H.same("whole tree", String.join("\n", whole) + "\n", Harness.whole(x));
    }

    // "A WORD lies over i to i + 1, where that word is, in one way."
    private static void aWordLiesWhereThatWordIs() {
        read("a a", 1, "S(a a)");
        read("aa a", 0, "S(a aa)");
        read("a aa", 1, "S(a aa)");
        read("aa", 0, "S(a)");
        read("a", 0, "S(aa)");
        read("b", 0, "S(a)");
        way(read("a b a", 1, "S(a T(b) a)"), 0, new String[] {"0 -1 -1 0 3 -1 -1"},
                new String[] {"0 0 -1 0 3 3", "0 1 0 0 1 0", "0 2 0 1 2 1", "0 3 2 1 2 0",
                    "0 4 0 2 3 0"});
    }

    // "A foot lies over i to l with the gap i to l, in one way."
    private static void aFootLiesOverTheGap() {
        TreeJoiner x = read("b a a a b", 1, "S(a a a)", "S(b S* b)");
        way(x, 0, new String[] {"0 -1 -1 0 5 -1 -1", "1 0 0 0 5 1 4"},
                new String[] {"1 0 -1 0 5 3", "1 1 0 0 1 0", "0 0 0 1 4 3", "0 1 2 1 2 0",
                    "0 2 2 2 3 0", "0 3 2 3 4 0", "1 3 0 4 5 0"});
    }

    // "A tree lies as its node 0 does": with a tree set in there, it lies over that one's words too.
    private static void aTreeLiesAsItsNode0() {
        TreeJoiner x = read("x b a b", 1, "S-(x A!)", "A(a)", "A-(b A* b)");
        way(x, 0, new String[] {"0 -1 -1 0 4 -1 -1", "1 0 2 1 4 -1 -1", "2 1 0 1 4 2 3"},
                new String[] {"0 0 -1 0 4 2", "0 1 0 0 1 0", "2 0 0 1 4 3", "2 1 2 1 2 0",
                    "1 0 2 2 3 1", "1 1 4 2 3 0", "2 3 2 3 4 0"});
        // So it is for an auxiliary tree, whose gap stays the same.
        TreeJoiner y = read("c b a b", 1, "S(a)", "S(b S* b)", "S-(c S*)");
        way(y, 0, new String[] {"0 -1 -1 0 4 -1 -1", "1 0 0 0 4 2 3", "2 1 0 0 4 1 4"},
                new String[] {"2 0 -1 0 4 2", "2 1 0 0 1 0", "1 0 0 1 4 3", "1 1 2 1 2 0",
                    "0 0 2 2 3 1", "0 1 4 2 3 0", "1 3 2 3 4 0"});
    }

    // "and the node's parts over p to q (with its own gap)": two gaps, one within the other.
    private static void partsWithTheirOwnGap() {
        TreeJoiner x = read("a c b x d", 1, "S(x)", "S-(a T(b S*))", "T(c T* d)");
        way(x, 0, new String[] {"0 -1 -1 0 5 -1 -1", "1 0 0 0 5 3 4", "2 1 2 1 5 2 4"},
                new String[] {"1 0 -1 0 5 2", "1 1 0 0 1 0", "2 0 0 1 5 3", "2 1 2 1 2 0",
                    "1 2 2 2 4 2", "1 3 4 2 3 0", "0 0 4 3 4 1", "0 1 6 3 4 0", "2 3 2 4 5 0"});
    }

    // "behind a use come those at its nodes, by these nodes' numbers, each with all behind it."
    private static void behindAUseThoseAtItsNodes() {
        TreeJoiner x = read("a c b d a x", 1, "S-(A! B(b) A! x)", "A(a C!)", "C(c)", "B(B* d)",
                "A(a)");
        way(x, 0, new String[] {"0 -1 -1 0 6 -1 -1", "1 0 1 0 2 -1 -1", "2 1 2 1 2 -1 -1",
            "3 0 2 2 4 2 3", "4 0 4 4 5 -1 -1"},
                new String[] {"0 0 -1 0 6 4", "1 0 0 0 2 2", "1 1 1 0 1 0", "2 0 1 1 2 1",
                    "2 1 3 1 2 0", "3 0 0 2 4 2", "0 2 5 2 3 1", "0 3 6 2 3 0", "3 2 5 3 4 0",
                    "4 0 0 4 5 1", "4 1 9 4 5 0", "0 5 0 5 6 0"});
    }

    // "in place of an open node there is node 0 of the tree there", or what is set into that.
    private static void inPlaceOfAnOpenNode() {
        TreeJoiner x = read("a b x", 1, "S-(A! x)", "A(a)", "A-(A* b)");
        way(x, 0, new String[] {"0 -1 -1 0 3 -1 -1", "1 0 1 0 2 -1 -1", "2 1 0 0 2 0 1"},
                new String[] {"0 0 -1 0 3 2", "2 0 0 0 2 2", "1 0 1 0 1 1", "1 1 2 0 1 0",
                    "2 2 1 1 2 0", "0 2 0 2 3 0"});
        Harness.sentence(x, "a x");
        H.goodRead(x, "S", 1);
        way(x, 0, new String[] {"0 -1 -1 0 2 -1 -1", "1 0 1 0 1 -1 -1"},
                new String[] {"0 0 -1 0 2 2", "1 0 0 0 1 1", "1 1 1 0 1 0", "0 2 0 1 2 0"});
    }

    // "of a node with a tree set in, there is that tree's node 0, and the node itself where the
    // foot is": the foot deep within, and a tree in a node between node 0 and the foot.
    private static void theNodeItselfWhereTheFootIs() {
        TreeJoiner x = read("p a q", 1, "S(a)", "S-(p U(S-(S*)) q)");
        way(x, 0, new String[] {"0 -1 -1 0 3 -1 -1", "1 0 0 0 3 1 2"},
                new String[] {"1 0 -1 0 3 3", "1 1 0 0 1 0", "1 2 0 1 2 1", "1 3 2 1 2 1",
                    "0 0 3 1 2 1", "0 1 4 1 2 0", "1 5 0 2 3 0"});
        TreeJoiner y = read("p r a q", 1, "S(a)", "S-(p U(S*) q)", "U(r U*)");
        way(y, 0, new String[] {"0 -1 -1 0 4 -1 -1", "1 0 0 0 4 2 3", "2 1 2 1 3 2 3"},
                new String[] {"1 0 -1 0 4 3", "1 1 0 0 1 0", "2 0 0 1 3 2", "2 1 2 1 2 0",
                    "1 2 2 2 3 1", "0 0 4 2 3 1", "0 1 5 2 3 0", "1 4 0 3 4 0"});
    }
}
