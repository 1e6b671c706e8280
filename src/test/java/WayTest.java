/** Promises 6 and 8 to 10: read, choose, use, whole; the order of ways by hand. */
public final class WayTest {
    private static final Harness H = new Harness("WayTest");

    public static void main(String[] args) {
        chosenWay();
        aTreeSetIn();
        treesSetInNode0OfATreeSetIn();
        partsFirstThenTreesByNumber();
        byPThenByQ();
        treesWayBeforePartsWay();
        splitsByE();
        marks();
        wrongCalls();
        many();
        H.done();
    }

    private static void read(TreeJoiner x, String words, int ways) {
        Harness.sentence(x, words);
        H.same("ways of " + words, ways, Harness.read(x, "S"));
    }

    private static void way(TreeJoiner x, int k, String uses) {
        int lines = uses.split("\n").length;
        H.same("choose(" + k + ")", lines, x.choose(k));
        H.same("uses of way " + k, uses, Harness.uses(x));
    }

    private static void chosenWay() {
        TreeJoiner x = Harness.with("S(NP! VP(saw NP!))", "NP(the dog)", "NP(a cat)",
                "VP(VP* today)", "NP(big NP*)");
        read(x, "big the dog saw a cat today", 1);
        way(x, 0, "0 -1 -1 0 7 -1 -1\n1 0 1 0 3 -1 -1\n4 1 0 0 3 1 3\n3 0 2 3 7 3 6\n"
                + "2 0 4 4 6 -1 -1\n");
        H.same("the whole tree", "0 0 -1 0 7 2\n"
                + "2 0 0 0 3 2\n2 1 1 0 1 0\n1 0 1 1 3 2\n1 1 3 1 2 0\n1 2 3 2 3 0\n"
                + "3 0 0 3 7 2\n0 2 6 3 6 2\n0 3 7 3 4 0\n4 0 7 4 6 2\n4 1 9 4 5 0\n4 2 9 5 6 0\n"
                + "3 2 6 6 7 0\n", Harness.whole(x));
    }

    private static void aTreeSetIn() {
        TreeJoiner x = Harness.with("S(a S(b))", "S(c S* d)");
        read(x, "a c b d", 1);
        way(x, 0, "0 -1 -1 0 4 -1 -1\n1 0 2 1 4 2 3\n");
        H.same("the node is where the foot is", "0 0 -1 0 4 2\n0 1 0 0 1 0\n1 0 0 1 4 3\n"
                + "1 1 2 1 2 0\n0 2 2 2 3 1\n0 3 4 2 3 0\n1 3 2 3 4 0\n", Harness.whole(x));
        read(x, "c a b d", 1);
        way(x, 0, "0 -1 -1 0 4 -1 -1\n1 0 0 0 4 1 3\n");
        read(x, "c a c b d d", 1);
        way(x, 0, "0 -1 -1 0 6 -1 -1\n1 0 0 0 6 1 5\n1 0 2 2 5 3 4\n");
    }

    private static void treesSetInNode0OfATreeSetIn() {
        TreeJoiner x = Harness.with("S(a)", "S(b S*)", "S-(c S*)");
        read(x, "c b a", 1);
        way(x, 0, "0 -1 -1 0 3 -1 -1\n1 0 0 0 3 2 3\n2 1 0 0 3 1 3\n");
        H.same("the tree that was set in last is above", "2 0 -1 0 3 2\n2 1 0 0 1 0\n"
                + "1 0 0 1 3 2\n1 1 2 1 2 0\n0 0 2 2 3 1\n0 1 4 2 3 0\n", Harness.whole(x));
        read(x, "b c a", 0);
    }

    private static void partsFirstThenTreesByNumber() {
        TreeJoiner x = Harness.with("S-(S(x) b)", "S(b S*)", "S(x S(b))", "S(S* b)", "S(x b)",
                "S(S* b)", "S(x)");
        read(x, "x b", 5);
        way(x, 0, "0 -1 -1 0 2 -1 -1\n");
        way(x, 1, "2 -1 -1 0 2 -1 -1\n");
        way(x, 2, "4 -1 -1 0 2 -1 -1\n");
        way(x, 3, "6 -1 -1 0 2 -1 -1\n3 0 0 0 2 0 1\n");
        way(x, 4, "6 -1 -1 0 2 -1 -1\n5 0 0 0 2 0 1\n");
        TreeJoiner y = Harness.with("S(x A!)", "A(a A!)", "A-(a a)", "A(a)", "A(A* a)");
        read(y, "x a a", 3);
        way(y, 0, "0 -1 -1 0 3 -1 -1\n1 0 2 1 3 -1 -1\n3 1 2 2 3 -1 -1\n");
        way(y, 1, "0 -1 -1 0 3 -1 -1\n2 0 2 1 3 -1 -1\n");
        way(y, 2, "0 -1 -1 0 3 -1 -1\n3 0 2 1 3 -1 -1\n4 1 0 1 3 1 2\n");
    }

    private static void byPThenByQ() {
        // The gap of the tree that is set in begins at p and ends at q.
        TreeJoiner x = Harness.with("S(T! x T!)", "T-(a)", "T-(a a)", "S-(a U! S* U!)",
                "U-(a)", "U-(a a)");
        read(x, "a a a x a a a", 2);
        way(x, 0, "0 -1 -1 0 7 -1 -1\n3 0 0 0 7 2 5\n4 1 2 1 2 -1 -1\n5 1 4 5 7 -1 -1\n"
                + "1 0 1 2 3 -1 -1\n1 0 3 4 5 -1 -1\n");
        way(x, 1, "0 -1 -1 0 7 -1 -1\n3 0 0 0 7 2 6\n4 1 2 1 2 -1 -1\n4 1 4 6 7 -1 -1\n"
                + "1 0 1 2 3 -1 -1\n2 0 3 4 6 -1 -1\n");
        Harness.sentence(x, "a a a a x a a");
        H.same("ways by p", 2, Harness.read(x, "S"));
        x.choose(0);
        H.same("p of way 0", 2, x.use(1, 5));
        x.choose(1);
        H.same("p of way 1", 3, x.use(1, 5));
    }

    private static void treesWayBeforePartsWay() {
        TreeJoiner x = Harness.with("S(x T!)", "T(a)", "T(a)", "S-(U! S* y)", "U(b)", "U(b)", "U(b)");
        read(x, "b x a y", 6);
        for (int k = 0; k < 6; k++) {
            way(x, k, "0 -1 -1 0 4 -1 -1\n3 0 0 0 4 1 3\n" + (4 + k / 2) + " 1 1 0 1 -1 -1\n"
                    + (1 + k % 2) + " 0 2 2 3 -1 -1\n");
        }
    }

    private static void splitsByE() {
        TreeJoiner x = Harness.with("S-(T! T! T! x)", "T-(a a)", "T-(a)", "T-(a)");
        read(x, "a a a a x", 12);
        // The trees of the three parts: by where the first one ends, then by its way, then so
        // for the others.
        String[] trees = {"221", "231", "212", "213", "321", "331", "312", "313",
            "122", "123", "132", "133"};
        for (int k = 0; k < trees.length; k++) {
            StringBuilder due = new StringBuilder("0 -1 -1 0 5 -1 -1\n");
            int from = 0;
            for (int part = 0; part < 3; part++) {
                int tree = trees[k].charAt(part) - '0';
                int to = from + (tree == 1 ? 2 : 1);
                due.append(tree).append(" 0 ").append(part + 1).append(' ').append(from).append(' ')
                        .append(to).append(" -1 -1\n");
                from = to;
            }
            way(x, k, due.toString());
        }
    }

    private static void marks() {
        TreeJoiner x = Harness.with("S+(a)", "S-(b S*)", "S(a T-(c))", "T-(d T*)");
        read(x, "a", 0);
        read(x, "b a", 1);
        read(x, "a c", 1);
        read(x, "a d c", 0);
        read(x, "b a c", 1);
        read(x, "b b a", 0);
        TreeJoiner y = Harness.with("S(a)", "S+(b S*)", "S(c S*)");
        read(y, "b a", 0);
        read(y, "c b a", 1);
        read(y, "c a", 1);
        read(y, "c c a", 1);
        read(y, "b c a", 0);
    }

    private static void wrongCalls() {
        TreeJoiner x = Harness.with("S(a)", "S(S* a)", "S(a S*)");
        H.state("choose before read", () -> x.choose(-1));
        read(x, "a a", 2);
        H.index("use(0, 0) before choose", () -> x.use(0, 0));
        H.index("use(0, 7) before choose", () -> x.use(0, 7));
        H.index("whole(0, 0) before choose", () -> x.whole(0, 0));
        x.choose(1);
        String before = Harness.state(x);
        H.index("choose(2)", () -> x.choose(2));
        H.index("choose(-1)", () -> x.choose(-1));
        H.index("choose(lowest)", () -> x.choose(Integer.MIN_VALUE));
        H.index("choose(highest)", () -> x.choose(Integer.MAX_VALUE));
        H.index("use(2, 0)", () -> x.use(2, 0));
        H.index("use(-1, 0)", () -> x.use(-1, 0));
        H.index("use(2, 7): the index first", () -> x.use(2, 7));
        H.index("use(highest, 0)", () -> x.use(Integer.MAX_VALUE, 0));
        H.argument("use(0, 7)", () -> x.use(0, 7));
        H.argument("use(1, -1)", () -> x.use(1, -1));
        H.argument("use(1, highest)", () -> x.use(1, Integer.MAX_VALUE));
        H.index("whole(4, 0)", () -> x.whole(4, 0));
        H.index("whole(-1, 0)", () -> x.whole(-1, 0));
        H.index("whole(4, 6): the index first", () -> x.whole(4, 6));
        H.argument("whole(0, 6)", () -> x.whole(0, 6));
        H.argument("whole(3, -1)", () -> x.whole(3, -1));
        H.argument("whole(3, lowest)", () -> x.whole(3, Integer.MIN_VALUE));
        H.same("calls that throw change nothing", before, Harness.state(x));
    }

    private static void many() {
        // 15 to the power of 7, below the cut.
        String[] trees = new String[16];
        trees[0] = "S-(T!T!T!T!T!T!T!x)";
        for (int i = 1; i < 16; i++) {
            trees[i] = "T-(a)";
        }
        TreeJoiner x = Harness.with(trees);
        read(x, "a a a a a a a x", 170859375);
        H.same("the last way", 8, x.choose(170859374));
        for (int u = 1; u < 8; u++) {
            H.same("tree of use " + u, 15, x.use(u, 0));
        }
        x.choose(123456789);
        int rest = 123456789;
        for (int u = 7; u >= 1; u--) {
            H.same("tree of use " + u, 1 + rest % 15, x.use(u, 0));
            rest /= 15;
        }
        H.index("one more", () -> x.choose(170859375));
        // Far above the cut.
        String deep = "S(S(S(S(S(S(S(S(S(S(S* a))))))))))";
        TreeJoiner y = Harness.with("S(a)", deep, deep, deep, deep, deep, deep, deep, deep);
        read(y, "a a a a a a a a", 1000000000);
        H.same("ways are cut off", 1000000000, y.count(4));
        H.same("the last way of these", 8, y.choose(999999999));
        H.index("beyond the cut", () -> y.choose(1000000000));
        H.same("nodes of the whole tree", 2 + 7 * 11, y.count(6));
    }
}
