import java.math.BigInteger;
import java.util.ArrayList;
import java.util.HashMap;
import java.util.List;
import java.util.Map;
import java.util.function.BiFunction;
import java.util.function.Function;

/** All ways of the document's chapter 2, as exact numbers, written down as the document tells. */
final class ModelWays {
    /** Ordered ways: how many, and each one by its number. */
    interface Ways<T> {
        BigInteger size();

        T nth(BigInteger k);
    }

    /** Where a node lies (with a tree set in: its parts), and the tree at it. */
    record Spot(int node, int from, int to, Use child) { }

    /** A tree in its place, with all that is at its nodes. */
    record Use(int tree, int from, int to, int gapFrom, int gapTo, List<Spot> spots) {
        Spot spot(int node) {
            return spots.stream().filter(s -> s.node() == node).findFirst().orElse(null);
        }
    }

    private final List<ModelTree> trees;
    private final String[] words;
    private final Map<String, Ways<List<Spot>>> known = new HashMap<>();

    ModelWays(List<ModelTree> trees, String[] words) {
        this.trees = trees;
        this.words = words;
    }

    Ways<Use> read(String label) {
        List<Ways<Use>> all = new ArrayList<>();
        for (int t = 0; t < trees.size(); t++) {
            if (!trees.get(t).auxiliary() && trees.get(t).root.name.equals(label)) {
                all.add(tree(t, 0, words.length, -1, -1));
            }
        }
        return sum(all);
    }

    private Ways<Use> tree(int t, int i, int l, int j, int k) {
        return map(node(t, trees.get(t).root, i, l, j, k),
                spots -> new Use(t, i, l, j, k, spots));
    }

    private Ways<List<Spot>> node(int t, ModelTree.Node node, int i, int l, int j, int k) {
        if (covered(i, l, j, k) < node.least()) {
            return none();
        }
        String key = t + ":" + node.number + ":" + i + ":" + l + ":" + j + ":" + k;
        Ways<List<Spot>> ways = known.get(key);
        if (ways == null) {
            ways = find(t, node, i, l, j, k);
            known.put(key, ways);
        }
        return ways;
    }

    private Ways<List<Spot>> find(int t, ModelTree.Node node, int i, int l, int j, int k) {
        switch (node.kind) {
            case WORD:
                return l == i + 1 && words[i].equals(node.name)
                        ? one(List.of(new Spot(node.number, i, l, null))) : none();
            case FOOT:
                return i == j && l == k ? one(List.of()) : none();
            case OPEN:
                List<Ways<List<Spot>>> all = new ArrayList<>();
                for (int u = 0; u < trees.size(); u++) {
                    if (!trees.get(u).auxiliary() && trees.get(u).root.name.equals(node.name)) {
                        all.add(map(tree(u, i, l, -1, -1),
                                use -> List.of(new Spot(node.number, i, l, use))));
                    }
                }
                return sum(all);
            default:
                return inner(t, node, i, l, j, k);
        }
    }

    private Ways<List<Spot>> inner(int t, ModelTree.Node node, int i, int l, int j, int k) {
        List<Ways<List<Spot>>> all = new ArrayList<>();
        if (node.mark != 1) {
            all.add(map(parts(t, node.parts, i, l, j, k),
                    spots -> join(List.of(new Spot(node.number, i, l, null)), spots)));
        }
        for (int u = 0; node.mark != 2 && u < trees.size(); u++) {
            ModelTree tree = trees.get(u);
            if (!tree.auxiliary() || !tree.root.name.equals(node.name)) {
                continue;
            }
            for (int p = i; p <= l; p++) {
                for (int q = p; q <= l; q++) {
                    boolean around = j < 0 || p <= j && k <= q;
                    if (around && covered(i, l, p, q) >= tree.root.least()
                            && covered(p, q, j, k) >= node.least()) {
                        int from = p;
                        int to = q;
                        all.add(product(tree(u, i, l, p, q), parts(t, node.parts, p, q, j, k),
                                (use, spots) -> join(
                                        List.of(new Spot(node.number, from, to, use)), spots)));
                    }
                }
            }
        }
        return sum(all);
    }

    private Ways<List<Spot>> parts(int t, List<ModelTree.Node> parts, int i, int l, int j, int k) {
        ModelTree.Node first = parts.get(0);
        if (parts.size() == 1) {
            return node(t, first, i, l, j, k);
        }
        List<ModelTree.Node> others = parts.subList(1, parts.size());
        boolean here = first.hasFoot();
        List<Ways<List<Spot>>> all = new ArrayList<>();
        for (int e = i; e <= l; e++) {
            int firstJ = here ? j : -1;
            int firstK = here ? k : -1;
            int othersJ = here ? -1 : j;
            int othersK = here ? -1 : k;
            if (firstJ >= 0 && firstK > e || othersJ >= 0 && othersJ < e) {
                continue;
            }
            int least = others.stream().mapToInt(ModelTree.Node::least).sum();
            if (covered(i, e, firstJ, firstK) >= first.least()
                    && covered(e, l, othersJ, othersK) >= least) {
                all.add(product(node(t, first, i, e, firstJ, firstK),
                        parts(t, others, e, l, othersJ, othersK), ModelWays::join));
            }
        }
        return sum(all);
    }

    private static int covered(int i, int l, int j, int k) {
        return l - i - (j < 0 ? 0 : k - j);
    }

    private static List<Spot> join(List<Spot> a, List<Spot> b) {
        List<Spot> out = new ArrayList<>(a);
        out.addAll(b);
        return out;
    }

    private static <T> Ways<T> none() {
        return sum(List.of());
    }

    private static <T> Ways<T> one(T only) {
        return new Ways<>() {
            public BigInteger size() {
                return BigInteger.ONE;
            }

            public T nth(BigInteger k) {
                return only;
            }
        };
    }

    private static <A, B> Ways<B> map(Ways<A> ways, Function<A, B> change) {
        return new Ways<>() {
            public BigInteger size() {
                return ways.size();
            }

            public B nth(BigInteger k) {
                return change.apply(ways.nth(k));
            }
        };
    }

    private static <T> Ways<T> sum(List<Ways<T>> all) {
        BigInteger size = all.stream().map(Ways::size).reduce(BigInteger.ZERO, BigInteger::add);
        return new Ways<>() {
            public BigInteger size() {
                return size;
            }

            public T nth(BigInteger k) {
                BigInteger left = k;
                for (Ways<T> ways : all) {
                    if (left.compareTo(ways.size()) < 0) {
                        return ways.nth(left);
                    }
                    left = left.subtract(ways.size());
                }
                throw new AssertionError("no such way");
            }
        };
    }

    private static <A, B, C> Ways<C> product(Ways<A> a, Ways<B> b, BiFunction<A, B, C> both) {
        BigInteger size = a.size().multiply(b.size());
        return new Ways<>() {
            public BigInteger size() {
                return size;
            }

            public C nth(BigInteger k) {
                BigInteger[] parted = k.divideAndRemainder(b.size());
                return both.apply(a.nth(parted[0]), b.nth(parted[1]));
            }
        };
    }
}
