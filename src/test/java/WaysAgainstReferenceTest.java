import java.math.BigInteger;
import java.util.ArrayList;
import java.util.List;

/**
 * Promises 6 and 8 to 10 on made-up sets of trees, against the ways as ModelWays lists them. It
 * makes more calls on an object than the document speaks of: the class does not count them.
 */
public final class WaysAgainstReferenceTest {
    private static final Harness H = new Harness("WaysAgainstReferenceTest");
    private static final BigInteger MANY = BigInteger.valueOf(1000000000);
    private static final ModelTree.Shape[] SHAPES = {
        new ModelTree.Shape(new String[] {"S"}, 75, 85),
        new ModelTree.Shape(new String[] {"S"}, 30, 60),
        new ModelTree.Shape(new String[] {"S", "A"}, 0, 45),
        new ModelTree.Shape(new String[] {"S", "S", "A", "B"}, 0, 45),
    };
    private static int readable;
    private static int cutOff;

    public static void main(String[] args) {
        for (int seed = 1; seed <= 250; seed++) {
            grammar(new Dice(seed), seed);
        }
        H.same("enough of them have ways", 1, readable > 250 ? 1 : 0);
        H.same("some have too many", 1, cutOff > 3 ? 1 : 0);
        System.out.println(readable + " with ways, " + cutOff + " above the cut");
        H.done();
    }

    private static void grammar(Dice dice, int seed) {
        TreeJoiner x = new TreeJoiner();
        List<ModelTree> trees = new ArrayList<>();
        int many = 1 + dice.roll(16);
        int most = 2 + dice.roll(11);
        ModelTree.Shape shape = SHAPES[seed % SHAPES.length];
        for (int t = 0; t < many; t++) {
            ModelTree tree = ModelTree.random(dice, dice.chance(50), most, shape);
            trees.add(tree);
            H.same("tree of seed " + seed, t, Harness.tree(x, tree.text(dice)));
        }
        for (int turn = 0; turn < 3; turn++) {
            sentence(x, trees, dice, "seed " + seed + " turn " + turn);
        }
    }

    private static void sentence(TreeJoiner x, List<ModelTree> trees, Dice dice, String where) {
        String[] words = new String[dice.roll(9)];
        for (int i = 0; i < words.length; i++) {
            words[i] = dice.pick("a", "a", "a", "a", "b");
        }
        H.same(where + " words", words.length, Harness.sentence(x, String.join(" ", words)));
        ModelWays model = new ModelWays(trees, words);
        for (String label : new String[] {"S", "A"}) {
            ModelWays.Ways<ModelWays.Use> ways = model.read(label);
            int size = ways.size().min(MANY).intValueExact();
            H.same(where + " ways as " + label, size, Harness.read(x, label));
            readable += size > 0 ? 1 : 0;
            cutOff += ways.size().compareTo(MANY) > 0 ? 1 : 0;
            if (size <= 20) {
                for (int k = 0; k < size; k++) {
                    way(x, trees, ways, k, where);
                }
            } else {
                way(x, trees, ways, 0, where);
                way(x, trees, ways, size - 1, where);
                for (int i = 0; i < 12; i++) {
                    way(x, trees, ways, dice.roll(size), where);
                }
            }
        }
    }

    private static void way(TreeJoiner x, List<ModelTree> trees, ModelWays.Ways<ModelWays.Use> ways,
            int k, String where) {
        ModelWhole due = new ModelWhole(trees, ways.nth(BigInteger.valueOf(k)));
        String name = where + " way " + k;
        H.same(name, due.uses.size(), x.choose(k));
        H.same(name + " uses", due.useLines(), Harness.uses(x));
        H.same(name + " whole", due.wholeLines(), Harness.whole(x));
    }
}
