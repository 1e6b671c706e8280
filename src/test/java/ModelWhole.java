import java.util.ArrayList;
import java.util.Comparator;
import java.util.List;

/** The uses of a way and its whole tree, as use() and whole() must answer them. */
final class ModelWhole {
    final List<ModelWays.Use> uses = new ArrayList<>();
    private final List<Integer> useOf = new ArrayList<>();
    private final List<Integer> useAt = new ArrayList<>();
    // Of each node of the whole tree what whole() must answer, by its what.
    final List<int[]> nodes = new ArrayList<>();
    private final List<ModelTree> trees;

    ModelWhole(List<ModelTree> trees, ModelWays.Use way) {
        this.trees = trees;
        collect(way, -1, -1);
        stand(0, root(0), -1);
    }

    private ModelTree.Node root(int use) {
        return trees.get(uses.get(use).tree()).root;
    }

    private void collect(ModelWays.Use use, int of, int at) {
        int number = uses.size();
        uses.add(use);
        useOf.add(of);
        useAt.add(at);
        use.spots().stream().filter(spot -> spot.child() != null)
                .sorted(Comparator.comparingInt(ModelWays.Spot::node))
                .forEach(spot -> collect(spot.child(), number, spot.node()));
    }

    private int useNumber(ModelWays.Use wanted) {
        for (int u = 0; u < uses.size(); u++) {
            if (uses.get(u) == wanted) {
                return u;
            }
        }
        throw new AssertionError("a use that was not collected");
    }

    private void stand(int use, ModelTree.Node node, int parent) {
        if (node.kind == ModelTree.Kind.FOOT) {
            int below = useOf.get(use);
            add(below, trees.get(uses.get(below).tree()).nodes.get(useAt.get(use)), parent);
            return;
        }
        ModelWays.Use child = uses.get(use).spot(node.number).child();
        if (child == null) {
            add(use, node, parent);
        } else {
            int above = useNumber(child);
            stand(above, root(above), parent);
        }
    }

    private void add(int use, ModelTree.Node node, int parent) {
        int number = nodes.size();
        ModelWays.Spot spot = uses.get(use).spot(node.number);
        nodes.add(new int[] {use, node.number, parent, spot.from(), spot.to(), node.parts.size()});
        node.parts.forEach(part -> stand(use, part, number));
    }

    /** What use() must answer, by its what. */
    int[] useCells(int u) {
        ModelWays.Use use = uses.get(u);
        return new int[] {use.tree(), useOf.get(u), useAt.get(u), use.from(), use.to(),
            use.gapFrom(), use.gapTo()};
    }

    String useLines() {
        StringBuilder out = new StringBuilder();
        for (int u = 0; u < uses.size(); u++) {
            line(out, useCells(u));
        }
        return out.toString();
    }

    String wholeLines() {
        StringBuilder out = new StringBuilder();
        nodes.forEach(node -> line(out, node));
        return out.toString();
    }

    static void line(StringBuilder out, int... cells) {
        for (int i = 0; i < cells.length; i++) {
            out.append(i == 0 ? "" : " ").append(cells[i]);
        }
        out.append('\n');
    }
}
