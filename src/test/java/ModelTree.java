import java.util.ArrayList;
import java.util.List;

/** A tree as a test thinks of it. */
final class ModelTree {
    enum Kind { INNER, OPEN, FOOT, WORD }

    /** What trees are made of: labels, and by the hundred, nodes of one part and inner parts. */
    record Shape(String[] labels, int chains, int inner) { }

    static final class Node {
        final Kind kind;
        final String name;
        final int mark;
        final List<Node> parts = new ArrayList<>();
        Node parent;
        int number;

        Node(Kind kind, String name, int mark) {
            this.kind = kind;
            this.name = name;
            this.mark = mark;
        }

        void add(Node part) {
            part.parent = this;
            parts.add(part);
        }

        /** How many words it covers at least. */
        int least() {
            if (kind == Kind.WORD || kind == Kind.OPEN) {
                return 1;
            }
            return parts.stream().mapToInt(Node::least).sum();
        }

        boolean hasFoot() {
            return kind == Kind.FOOT || parts.stream().anyMatch(Node::hasFoot);
        }
    }

    final Node root;
    final List<Node> nodes = new ArrayList<>();

    ModelTree(Node root) {
        this.root = root;
        number(root);
    }

    private void number(Node node) {
        node.number = nodes.size();
        nodes.add(node);
        node.parts.forEach(this::number);
    }

    boolean auxiliary() {
        return root.hasFoot();
    }

    boolean has(Kind kind) {
        return nodes.stream().anyMatch(node -> node.kind == kind);
    }

    String text(Dice dice) {
        StringBuilder out = new StringBuilder();
        write(root, out, dice);
        return out.toString();
    }

    private static void write(Node node, StringBuilder out, Dice dice) {
        char last = out.length() == 0 ? ' ' : out.charAt(out.length() - 1);
        if (Character.isLetter(last) || dice.chance(20)) {
            out.append(dice.pick(" ", "\t", "\n", "\r", "  "));
        }
        out.append(node.name);
        switch (node.kind) {
            case OPEN -> out.append('!');
            case FOOT -> out.append('*');
            case WORD -> { }
            case INNER -> {
                out.append(node.mark == 1 ? "+" : node.mark == 2 ? "-" : "");
                out.append(dice.chance(10) ? " (" : "(");
                node.parts.forEach(part -> write(part, out, dice));
                out.append(dice.chance(10) ? " )" : ")");
            }
        }
    }

    /** A tree of few labels and words, so that many of them fit each other. */
    static ModelTree random(Dice dice, boolean auxiliary, int most, Shape shape) {
        while (true) {
            String label = dice.pick(shape.labels());
            Node root = new Node(Kind.INNER, label, mark(dice));
            int[] left = {most - 1};
            grow(root, dice, left, shape);
            if (auxiliary) {
                plantFoot(root, label, dice);
            }
            ModelTree tree = new ModelTree(root);
            if (tree.has(Kind.WORD) && tree.nodes.size() <= 12) {
                return tree;
            }
        }
    }

    private static int mark(Dice dice) {
        return dice.chance(85) ? 0 : 1 + dice.roll(2);
    }

    private static void grow(Node node, Dice dice, int[] left, Shape shape) {
        int parts = dice.chance(shape.chains()) ? 1 : 1 + dice.roll(3);
        for (int i = 0; i < parts && (left[0] > 0 || i == 0); i++) {
            left[0]--;
            if (left[0] > 0 && dice.chance(shape.inner())) {
                Node part = new Node(Kind.INNER, dice.pick(shape.labels()), mark(dice));
                node.add(part);
                grow(part, dice, left, shape);
            } else if (dice.chance(25)) {
                node.add(new Node(Kind.OPEN, dice.pick(shape.labels()), 0));
            } else {
                node.add(new Node(Kind.WORD, dice.pick("a", "a", "a", "b"), 0));
            }
        }
    }

    private static void plantFoot(Node root, String label, Dice dice) {
        Node at = root;
        while (dice.chance(60)) {
            List<Node> inner = at.parts.stream().filter(part -> part.kind == Kind.INNER).toList();
            if (inner.isEmpty()) {
                break;
            }
            at = inner.get(dice.roll(inner.size()));
        }
        Node foot = new Node(Kind.FOOT, label, 0);
        foot.parent = at;
        boolean instead = at != root && at.parts.size() == 1 && dice.chance(50);
        if (instead) {
            at.parts.clear();
        }
        at.parts.add(dice.roll(at.parts.size() + 1), foot);
    }
}
