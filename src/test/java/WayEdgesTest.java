import java.math.BigInteger;
import java.util.ArrayList;
import java.util.List;

/** The edges of promises 6 and 8 to 10 and of "2 WAYS", sentence by sentence. */
public final class WayEdgesTest {
    private static final Harness H = new Harness("WayEdgesTest");
    private static final int LOWEST = Integer.MIN_VALUE;
    private static final int HIGHEST = Integer.MAX_VALUE;

    public static void main(String[] args) {
        chooseWhatWasNotRead();
        chooseNotSoManyWays();
        aRefusedChooseKeepsTheWay();
        useWithoutAWay();
        noSuchUse();
        whatOfAUse();
        noneWhereThereIsNone();
        noSuchNodeOfTheWhole();
        whatOfANodeOfTheWhole();
        theLeastWay();
        theMostUsesAndNodes();
        overAllOfTheSentence();
        theGapAtTheEdges();
        aNodeThatHoldsNothingButTheFoot();
        openNodes();
        ifItHasNoPlus();
        ifItHasNoMinus();
        noneMoreThanOnceAtANode();
        initialTreesWithThatLabel();
        belowTheCut();
        atTheCut();
        aboveTheCut();
        farAboveTheCut();
        H.done();
    }

    private static TreeJoiner read(String words, int ways, String... trees) {
        TreeJoiner x = Harness.with(trees);
        Harness.sentence(x, words);
        H.goodRead(x, "S", ways);
        return x;
    }

    private static void way(TreeJoiner x, int k, String uses, String whole) {
        H.same("choose(" + k + ")", uses.split("\n").length, x.choose(k));
        H.same("uses of way " + k, uses, Harness.uses(x));
        H.same("whole tree of way " + k, whole, Harness.whole(x));
    }

    // Promise 8: "IllegalStateException: it was not read", whatever k is.
    private static void chooseWhatWasNotRead() {
        TreeJoiner unread = new TreeJoiner();
        TreeJoiner behindTree = read("a", 1, "S(a)");
        Harness.tree(behindTree, "S(a)");
        TreeJoiner behindSentence = read("a", 1, "S(a)");
        Harness.sentence(behindSentence, "a");
        TreeJoiner behindRead = read("a", 1, "S(a)");
        Harness.read(behindRead, "S S");
        TreeJoiner behindClear = read("a", 1, "S(a)");
        behindClear.clear();
        for (TreeJoiner x : new TreeJoiner[] {unread, behindTree, behindSentence, behindRead,
            behindClear}) {
            for (int k : new int[] {0, 1, -1, LOWEST, HIGHEST}) {
                H.state("choose(" + k + ")", () -> x.choose(k));
            }
        }
    }

    // Promise 8: "IndexOutOfBoundsException: there are not so many ways."
    private static void chooseNotSoManyWays() {
        TreeJoiner none = read("b", 0, "S(a)");
        TreeJoiner one = read("a", 1, "S(a)");
        TreeJoiner four = read("a a a", 4, "S(a)", "S(S* a)", "S(a S*)");
        TreeJoiner[] objects = {none, one, four};
        int[] ways = {0, 1, 4};
        for (int i = 0; i < objects.length; i++) {
            TreeJoiner x = objects[i];
            for (int k = 0; k < ways[i]; k++) {
                H.same("choose(" + k + ") of " + ways[i], i == 1 ? 1 : 3, x.choose(k));
            }
            for (int k : new int[] {ways[i], ways[i] + 1, -1, LOWEST, HIGHEST}) {
                H.index("choose(" + k + ") of " + ways[i], () -> x.choose(k));
            }
        }
    }

    // "A call that throws changes nothing."
    private static void aRefusedChooseKeepsTheWay() {
        TreeJoiner x = read("a a a", 4, "S(a)", "S(S* a)", "S(a S*)");
        x.choose(2);
        String before = Harness.everything(x);
        H.index("choose(4)", () -> x.choose(4));
        H.same("behind choose(4)", before, Harness.everything(x));
        H.index("choose(-1)", () -> x.choose(-1));
        H.same("behind choose(-1)", before, Harness.everything(x));
        TreeJoiner y = read("a", 1, "S(a)");
        H.index("choose(1)", () -> y.choose(1));
        H.same("still no way", 0, y.count(5));
        H.index("use(0, 0)", () -> y.use(0, 0));
    }

    // Promise 9: "(without one there are none)", and the first exception named comes first.
    private static void useWithoutAWay() {
        TreeJoiner fresh = new TreeJoiner();
        TreeJoiner unchosen = read("a", 1, "S(a)");
        for (TreeJoiner x : new TreeJoiner[] {fresh, unchosen}) {
            for (int what : new int[] {0, 6, 7, -1}) {
                H.index("use(0, " + what + ")", () -> x.use(0, what));
                H.index("whole(0, " + what + ")", () -> x.whole(0, what));
            }
            H.same("uses", 0, x.count(5));
            H.same("nodes", 0, x.count(6));
        }
    }

    // Promise 9: "IndexOutOfBoundsException": there is no such use.
    private static void noSuchUse() {
        TreeJoiner x = read("a a", 1, "S(a)", "S(S* a)");
        x.choose(0);
        H.same("use(1, 0)", 1, x.use(1, 0));
        for (int u : new int[] {-1, 2, 3, 8, LOWEST, HIGHEST}) {
            H.index("use(" + u + ", 0)", () -> x.use(u, 0));
            H.index("use(" + u + ", 7)", () -> x.use(u, 7));
            H.index("use(" + u + ", -1)", () -> x.use(u, -1));
        }
        // Of a way with fewer uses, the uses of the way before are no more.
        TreeJoiner y = read("a b", 2, "S(a B!)", "B(b)", "S(a b)");
        H.same("choose(0)", 2, y.choose(0));
        H.same("choose(1)", 1, y.choose(1));
        H.index("use(1, 0)", () -> y.use(1, 0));
        H.index("whole(3, 0)", () -> y.whole(3, 0));
    }

    // Promise 9: "what = 0 ... 6"; "IllegalArgumentException": what is none of these.
    private static void whatOfAUse() {
        TreeJoiner x = read("a a", 1, "S(a)", "S(S* a)");
        x.choose(0);
        H.same("the seven of each", "0 -1 -1 0 2 -1 -1\n1 0 0 0 2 0 1\n", Harness.uses(x));
        for (int what : new int[] {-1, 7, 8, LOWEST, HIGHEST}) {
            H.argument("use(0, " + what + ")", () -> x.use(0, what));
            H.argument("use(1, " + what + ")", () -> x.use(1, what));
        }
    }

    // Promise 9: "(NONE for the first one)", "(2, 5, 6 NONE where there is none)".
    private static void noneWhereThereIsNone() {
        TreeJoiner x = read("a b c", 1, "S(a B!)", "B(b)", "B(B* c)");
        x.choose(0);
        H.same("the first one's use", TreeJoiner.NONE, x.use(0, 1));
        H.same("the first one's node", TreeJoiner.NONE, x.use(0, 2));
        for (int u = 0; u < 2; u++) {
            H.same("gap from of use " + u, TreeJoiner.NONE, x.use(u, 5));
            H.same("gap to of use " + u, TreeJoiner.NONE, x.use(u, 6));
        }
        H.same("a tree that is set in", "2 1 0 1 3 1 2", Harness.uses(x).split("\n")[2]);
        H.same("the whole tree's node 0", TreeJoiner.NONE, x.whole(0, 2));
    }

    // Promise 10: "IndexOutOfBoundsException": there is no such node.
    private static void noSuchNodeOfTheWhole() {
        TreeJoiner x = read("a a", 1, "S(a)", "S(S* a)");
        x.choose(0);
        H.same("nodes", 4, x.count(6));
        H.same("whole(3, 0)", 1, x.whole(3, 0));
        for (int n : new int[] {-1, 4, 5, 96, LOWEST, HIGHEST}) {
            H.index("whole(" + n + ", 0)", () -> x.whole(n, 0));
            H.index("whole(" + n + ", 6)", () -> x.whole(n, 6));
            H.index("whole(" + n + ", -1)", () -> x.whole(n, -1));
        }
    }

    // Promise 10: "what = 0 ... 5"; "IllegalArgumentException": what is none of these.
    private static void whatOfANodeOfTheWhole() {
        TreeJoiner x = read("a a", 1, "S(a)", "S(S* a)");
        x.choose(0);
        H.same("the six of each", "1 0 -1 0 2 2\n0 0 0 0 1 1\n0 1 1 0 1 0\n1 2 0 1 2 0\n",
                Harness.whole(x));
        for (int what : new int[] {-1, 6, 7, LOWEST, HIGHEST}) {
            H.argument("whole(0, " + what + ")", () -> x.whole(0, what));
            H.argument("whole(3, " + what + ")", () -> x.whole(3, what));
        }
    }

    // "of each tree of it one; the first one is that of the whole": one tree, one WORD.
    private static void theLeastWay() {
        way(read("a", 1, "S(a)"), 0, "0 -1 -1 0 1 -1 -1\n", "0 0 -1 0 1 1\n0 1 0 0 1 0\n");
    }

    // Eight words, so at most eight trees; of twelve nodes each seven are feet or open nodes.
    private static void theMostUsesAndNodes() {
        String initial = "S(".repeat(11) + "a" + ")".repeat(11);
        String auxiliary = "S-(" + "T(".repeat(9) + "S* b" + ")".repeat(10);
        TreeJoiner x = read("a b b b b b b b", 330, initial, auxiliary);
        for (int k : new int[] {0, 329}) {
            H.same("uses", 8, x.choose(k));
            H.same("nodes", 12 + 7 * 11, x.count(6));
            H.same("the last node", k == 0 ? "1 11 13 7 8 0" : "1 11 9 7 8 0",
                    Harness.whole(x).split("\n")[88]);
            H.index("node 89", () -> x.whole(89, 0));
            H.index("use 8", () -> x.use(8, 0));
        }
        String open = "S(T!T!T!T!T!T!T!U(U(U(b))))";
        String leaf = "T(" + "V(".repeat(10) + "a" + ")".repeat(11);
        TreeJoiner y = read("a a a a a a a b", 1, open, leaf);
        H.same("uses", 8, y.choose(0));
        H.same("nodes", 12 + 7 * 11, y.count(6));
        H.same("the last node", "0 11 87 7 8 0", Harness.whole(y).split("\n")[88]);
    }

    // "lie over all of it": not one word fewer or more.
    private static void overAllOfTheSentence() {
        read("a b", 1, "S(a b)");
        read("a", 0, "S(a b)");
        read("a b b", 0, "S(a b)");
        read("b a", 0, "S(a b)");
        read("", 0, "S(a b)");
        read("a a a a a a a a", 1, "S(a a a a a a a a)");
        read("a a a a a a a", 0, "S(a a a a a a a a)");
        read("a a a a a a a a", 0, "S(a a a a a a a)");
        read("a a a a a a a a", 0, "S(a a a a a a a a a)");
        read("a a a a a a a a", 0, "S(a a a a a a a a a a a)");
    }

    // "with a gap from j to k (i <= j <= k <= l; ...)": at the left, at the right, in the midst.
    private static void theGapAtTheEdges() {
        way(read("a b", 1, "S(a)", "S(S* b)"), 0, "0 -1 -1 0 2 -1 -1\n1 0 0 0 2 0 1\n",
                "1 0 -1 0 2 2\n0 0 0 0 1 1\n0 1 1 0 1 0\n1 2 0 1 2 0\n");
        way(read("b a", 1, "S(a)", "S(b S*)"), 0, "0 -1 -1 0 2 -1 -1\n1 0 0 0 2 1 2\n",
                "1 0 -1 0 2 2\n1 1 0 0 1 0\n0 0 0 1 2 1\n0 1 2 1 2 0\n");
        way(read("b a b", 1, "S(a)", "S(b S* b)"), 0, "0 -1 -1 0 3 -1 -1\n1 0 0 0 3 1 2\n",
                "1 0 -1 0 3 3\n1 1 0 0 1 0\n0 0 0 1 2 1\n0 1 2 1 2 0\n1 3 0 2 3 0\n");
        // The gap is as wide as may be: all but one word.
        way(read("a a a a a a a b", 1, "S(a a a a a a a)", "S(S* b)"), 0,
                "0 -1 -1 0 8 -1 -1\n1 0 0 0 8 0 7\n",
                "1 0 -1 0 8 2\n0 0 0 0 7 7\n0 1 1 0 1 0\n0 2 1 1 2 0\n0 3 1 2 3 0\n0 4 1 3 4 0\n"
                + "0 5 1 4 5 0\n0 6 1 5 6 0\n0 7 1 6 7 0\n1 2 0 7 8 0\n");
        // Nothing can lie in a gap without words.
        read("b", 0, "S(a)", "S(b S*)");
        read("b b", 0, "S(a)", "S(b S* b)");
    }

    // A node over the gap alone: a tree can be set into it too, around the gap.
    private static void aNodeThatHoldsNothingButTheFoot() {
        TreeJoiner x = read("b c a", 1, "S(a)", "S(b T(S*))", "T(c T*)");
        way(x, 0, "0 -1 -1 0 3 -1 -1\n1 0 0 0 3 2 3\n2 1 2 1 3 2 3\n",
                "1 0 -1 0 3 2\n1 1 0 0 1 0\n2 0 0 1 3 2\n2 1 2 1 2 0\n1 2 2 2 3 1\n"
                + "0 0 4 2 3 1\n0 1 5 2 3 0\n");
        Harness.sentence(x, "b a");
        H.goodRead(x, "S", 1);
        Harness.sentence(x, "c b a");
        H.goodRead(x, "S", 0);
        // The same label all the way: the trees go into each node over the gap.
        TreeJoiner y = read("b b a", 3, "S-(a S(a))", "S(S(a))", "S-(b S(S*))");
        H.same("the first way", 3, y.choose(0));
        H.same("the last way", 3, y.choose(2));
    }

    // "An open node lies over i to l as any initial tree does whose node 0 has its label".
    private static void openNodes() {
        read("a b", 0, "S(a B!)");
        read("a", 0, "S(a B!)", "B(b)");
        read("a b", 1, "S(a B!)", "B(b)");
        read("a b", 0, "S(a B!)", "B(b B*)");
        read("a b", 0, "S(a B!)", "C(b)", "C(B(b))");
        read("a b", 2, "S(a B!)", "B(b)", "C(b)", "B(b)");
        read("b b b b b b b a", 1, "S(B!B!B!B!B!B!B!a)", "B(b)");
        read("b b b b b b a", 0, "S(B!B!B!B!B!B!B!a)", "B(b)");
        // A tree may stand at its own open node, as long as there are words.
        read("a a a a a a a a", 1, "S(a S!)", "S(a)");
        read("a a a a a a a a", 0, "S(a S!)");
        // By numbers, of one tree by its ways.
        TreeJoiner x = read("x a a", 3, "S-(x B!)", "B(a C!)", "B-(a a)", "C(a)", "C(a)");
        int[][] trees = {{1, 3}, {1, 4}, {2, -1}};
        for (int k = 0; k < 3; k++) {
            H.same("uses", trees[k][1] < 0 ? 2 : 3, x.choose(k));
            H.same("tree of way " + k, trees[k][0], x.use(1, 0));
            if (trees[k][1] >= 0) {
                H.same("tree within", trees[k][1], x.use(2, 0));
            }
        }
    }

    // "first, if it has no +, as its PARTS lie".
    private static void ifItHasNoPlus() {
        read("a", 1, "S(a)");
        read("a", 1, "S-(a)");
        read("a", 0, "S+(a)");
        read("a", 0, "S(T+(a))");
        read("a b", 1, "S+(a)", "S(S* b)");
        read("a b", 0, "S+(a)", "S+(S* b)");
        read("a b b", 2, "S+(a)", "S+(S* b)", "S(S* b)");
        read("a b", 0, "S+(a)", "T(T* b)");
        // The parts come first, the trees behind.
        TreeJoiner x = read("a b", 2, "S-(S(a)b)", "S(S* b)", "S(a)");
        H.same("as the parts lie", 1, x.choose(0));
        H.same("with a tree set in", 2, x.choose(1));
    }

    // "then, if it has no -, for each auxiliary tree whose node 0 has its label, by numbers".
    private static void ifItHasNoMinus() {
        read("a b", 1, "S(a)", "S(S* b)");
        read("a b", 0, "S-(a)", "S(S* b)");
        read("a b", 0, "S-(a)", "S-(S* b)");
        read("a b b", 0, "S(a)", "S-(S* b)");
        read("a b b", 1, "S(a)", "S(S* b)");
        read("a b", 1, "S-(S(a))", "S(S* b)");
        read("a b", 0, "S(a)", "SS(SS* b)");
        TreeJoiner x = read("a b", 3, "S(S* b)", "S(a)", "S(S* b)", "S(S(S*) b)");
        int[] trees = {0, 2, 3};
        for (int k = 0; k < 3; k++) {
            x.choose(k);
            H.same("tree that is set in by way " + k, trees[k], x.use(1, 0));
        }
    }

    // "(... none more than once at a node. ...)"
    private static void noneMoreThanOnceAtANode() {
        read("b a", 1, "S(a)", "S-(b S*)");
        read("b b a", 0, "S(a)", "S-(b S*)");
        read("b b a", 1, "S(S(a))", "S-(b S*)");
        read("b b b a", 0, "S(S(a))", "S-(b S*)");
        // One is set into the other, which is its own node.
        TreeJoiner x = read("b b a", 1, "S(a)", "S(b S*)");
        way(x, 0, "0 -1 -1 0 3 -1 -1\n1 0 0 0 3 2 3\n1 1 0 0 3 1 3\n",
                "2 0 -1 0 3 2\n2 1 0 0 1 0\n1 0 0 1 3 2\n1 1 2 1 2 0\n0 0 2 2 3 1\n0 1 4 2 3 0\n");
    }

    // "READ as a label in all ways in which the initial trees whose node 0 has that label lie".
    private static void initialTreesWithThatLabel() {
        TreeJoiner x = Harness.with("T(a)", "S(a)", "S(S* a)", "S(T(a))", "T(S(a))", "SS(a)");
        Harness.sentence(x, "a");
        H.goodRead(x, "S", 2);
        x.choose(0);
        H.same("tree of way 0", 1, x.use(0, 0));
        x.choose(1);
        H.same("tree of way 1", 3, x.use(0, 0));
        H.goodRead(x, "T", 2);
        H.goodRead(x, "SS", 1);
        H.goodRead(x, "SSS", 0);
    }

    /** Trees of a P with an "a" in chains of these lengths, and trees that set a "b" behind. */
    private static List<String> chains(int auxiliary, int... lengths) {
        List<String> trees = new ArrayList<>();
        for (int length : lengths) {
            trees.add("P(".repeat(length) + "a" + ")".repeat(length));
        }
        for (int i = 0; i < auxiliary; i++) {
            trees.add("P-(P* b)");
        }
        return trees;
    }

    /** Compares the ways with these numbers with the exact ones. */
    private static TreeJoiner compare(String words, List<String> trees, String exact, int... some) {
        ModelParser model = new ModelParser();
        trees.forEach(model::tree);
        ModelWays.Ways<ModelWays.Use> ways = new ModelWays(model.trees, words.split(" ")).read("S");
        H.same("the exact number of ways", exact, ways.size().toString());
        int due = ways.size().min(BigInteger.valueOf(1000000000)).intValueExact();
        TreeJoiner x = read(words, due, trees.toArray(new String[0]));
        for (int k : some) {
            ModelWhole whole = new ModelWhole(model.trees, ways.nth(BigInteger.valueOf(k)));
            way(x, k, whole.useLines(), whole.wholeLines());
        }
        for (int k : new int[] {due, due + 1, -1, HIGHEST}) {
            H.index("choose(" + k + ")", () -> x.choose(k));
        }
        return x;
    }

    // "Numbers of ways are cut off at 1000000000": of a chain of n P's, "a" with m "b"s has
    // n over m times (number of auxiliary trees) to the power of m ways.
    private static void belowTheCut() {
        List<String> trees = chains(6, 3, 5, 10, 10, 11, 11);
        trees.add("S-(P! P! x)");
        trees.add("S-(P! b P! x)");
        trees.add("S-(P! b b P! b x)");
        trees.add("S-(P! b b P! b b x)");
        compare("a b b a b b b x", trees, "999999936", 0, 1, 962303327, 962303328, 999999934,
                999999935);
    }

    private static void atTheCut() {
        List<String> trees = chains(10, 7, 7, 11);
        trees.add("S-(P! P! x)");
        TreeJoiner x = compare("a b a b b b b x", trees, "1000000000", 0, 1, 3999999, 4000000,
                500000000, 999999998, 999999999);
        x.choose(999999999);
        // The last tree everywhere, set in as near to node 0 as may be.
        H.same("the last way", "13 -1 -1 0 8 -1 -1\n2 0 1 0 2 -1 -1\n12 1 0 0 2 0 1\n"
                + "2 0 2 2 7 -1 -1\n12 3 0 2 7 2 6\n12 3 1 2 6 2 5\n12 3 2 2 5 2 4\n"
                + "12 3 3 2 4 2 3\n", Harness.uses(x));
    }

    private static void aboveTheCut() {
        List<String> behind = chains(10, 7, 7, 11);
        behind.add("S-(P! P! x)");
        behind.add("S-(a b a b b b b x)");
        compare("a b a b b b b x", behind, "1000000001", 0, 999999999);
        List<String> before = chains(10, 7, 7, 11);
        before.add("S-(a b a b b b b x)");
        before.add("S-(P! P! x)");
        compare("a b a b b b b x", before, "1000000001", 0, 1, 999999999);
    }

    // Numbers within are far above the cut too: 11 / 81 of 81 over 7, times 7 to the power of 7.
    private static void farAboveTheCut() {
        List<String> trees = new ArrayList<>();
        trees.add("S(".repeat(11) + "a" + ")".repeat(11));
        for (int i = 0; i < 7; i++) {
            trees.add("S(".repeat(10) + "S* a" + ")".repeat(10));
        }
        compare("a a a a a a a a", trees, "388889028327800", 0, 1, 123456789, 999999998,
                999999999);
        // What has no way has none, however often it is multiplied.
        TreeJoiner x = Harness.with(trees.toArray(new String[0]));
        H.goodTree(x, "T(S! b)");
        H.goodSentence(x, "a a a a a a a b", 8);
        H.same("many", 1000000000, Harness.read(x, "T"));
        H.goodSentence(x, "a a a a a a a a", 8);
        H.goodRead(x, "T", 0);
    }
}
