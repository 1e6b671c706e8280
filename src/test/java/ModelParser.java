import java.util.ArrayList;
import java.util.List;
import java.util.regex.Matcher;
import java.util.regex.Pattern;

/** What tree(), sentence() and read() make of a text, by descent through the document's grammar. */
final class ModelParser {
    private static final Pattern TOKEN = Pattern.compile("[A-Z][A-Z0-9]*|[a-z]+|[()!*+-]");
    private static final Pattern BLANKS = Pattern.compile("[\\t\\n\\r ]*");

    /** A fault that ends the reading of a text. */
    private static final class Fault extends RuntimeException {
        private static final long serialVersionUID = 1;
        final int code;
        final int place;

        Fault(int code, int place) {
            this.code = code;
            this.place = place;
        }
    }

    final List<ModelTree> trees = new ArrayList<>();
    List<String> labels = new ArrayList<>();
    List<String> words = new ArrayList<>();
    List<String> spoken = new ArrayList<>();
    int fault;

    private String text;
    private int at;
    private int nodes;
    private List<String> newLabels;
    private List<String> newWords;
    private List<Integer> footPlaces;
    private List<String> footLabels;

    int tree(String given) {
        return guarded(given, this::takeTree);
    }

    int sentence(String given) {
        return guarded(given, this::takeSentence);
    }

    /** 0, or -1 less the place of the fault. */
    int label(String given) {
        return guarded(given, this::takeLabel);
    }

    int clear() {
        int many = trees.size();
        trees.clear();
        labels = new ArrayList<>();
        words = new ArrayList<>();
        return many;
    }

    private int guarded(String given, java.util.function.IntSupplier take) {
        text = given;
        at = 0;
        fault = 0;
        try {
            return take.getAsInt();
        } catch (Fault f) {
            fault = f.code;
            return -1 - f.place;
        }
    }

    private int takeTree() {
        nodes = 0;
        newLabels = new ArrayList<>(labels);
        newWords = new ArrayList<>(words);
        footPlaces = new ArrayList<>();
        footLabels = new ArrayList<>();
        ModelTree.Node root = takeNode();
        takeEnd();
        ModelTree tree = new ModelTree(root);
        judge(tree);
        trees.add(tree);
        labels = newLabels;
        words = newWords;
        return trees.size() - 1;
    }

    private void judge(ModelTree tree) {
        if (tree.root.kind != ModelTree.Kind.INNER) {
            throw new Fault(4, 0);
        }
        if (footPlaces.size() > 1) {
            throw new Fault(5, footPlaces.get(1));
        }
        if (footPlaces.size() == 1 && !footLabels.get(0).equals(tree.root.name)) {
            throw new Fault(6, footPlaces.get(0));
        }
        if (!tree.has(ModelTree.Kind.WORD)) {
            throw new Fault(7, 0);
        }
        if (trees.size() == 16) {
            throw new Fault(8, 0);
        }
    }

    private ModelTree.Node takeNode() {
        String token = peek();
        int place = at;
        boolean word = isWord(token);
        if (!word && !isLabel(token)) {
            throw new Fault(2, place);
        }
        nodes++;
        List<String> names = word ? newWords : newLabels;
        if (!names.contains(token)) {
            names.add(token);
        }
        if (nodes > 12 || newWords.size() > 32 || newLabels.size() > 16) {
            throw new Fault(3, place);
        }
        at += token.length();
        return word ? new ModelTree.Node(ModelTree.Kind.WORD, token, 0) : takeLabelled(token, place);
    }

    private ModelTree.Node takeLabelled(String label, int place) {
        String sign = peek();
        if (sign.equals("!")) {
            at++;
            return new ModelTree.Node(ModelTree.Kind.OPEN, label, 0);
        }
        if (sign.equals("*")) {
            at++;
            footPlaces.add(place);
            footLabels.add(label);
            return new ModelTree.Node(ModelTree.Kind.FOOT, label, 0);
        }
        int mark = sign.equals("+") ? 1 : sign.equals("-") ? 2 : 0;
        if (mark != 0) {
            at++;
        }
        take("(");
        ModelTree.Node node = new ModelTree.Node(ModelTree.Kind.INNER, label, mark);
        do {
            node.add(takeNode());
        } while (!peek().equals(")"));
        take(")");
        return node;
    }

    private int takeSentence() {
        List<String> found = new ArrayList<>();
        for (String token = peek(); !token.isEmpty(); token = peek()) {
            if (!isWord(token)) {
                throw new Fault(2, at);
            }
            found.add(token);
            if (found.size() > 8) {
                throw new Fault(3, at);
            }
            at += token.length();
        }
        spoken = found;
        return found.size();
    }

    private int takeLabel() {
        String token = peek();
        if (!isLabel(token)) {
            throw new Fault(2, at);
        }
        at += token.length();
        takeEnd();
        return 0;
    }

    private void take(String sign) {
        if (!peek().equals(sign)) {
            throw new Fault(2, at);
        }
        at++;
    }

    private void takeEnd() {
        if (!peek().isEmpty()) {
            throw new Fault(2, at);
        }
    }

    /** The token behind the blanks, which are passed over; empty at the end. */
    private String peek() {
        Matcher blanks = BLANKS.matcher(text).region(at, text.length());
        blanks.lookingAt();
        at = blanks.end();
        if (at == text.length()) {
            return "";
        }
        Matcher token = TOKEN.matcher(text).region(at, text.length());
        if (!token.lookingAt()) {
            throw new Fault(1, at);
        }
        String found = token.group();
        if (isLabel(found) && found.length() > 8 || isWord(found) && found.length() > 12) {
            throw new Fault(1, at);
        }
        return found;
    }

    private static boolean isWord(String token) {
        return !token.isEmpty() && Character.isLowerCase(token.charAt(0));
    }

    private static boolean isLabel(String token) {
        return !token.isEmpty() && Character.isUpperCase(token.charAt(0));
    }

    /** What node() must answer, by its what. */
    int[] nodeCells(int t, int x) {
        ModelTree.Node node = trees.get(t).nodes.get(x);
        List<String> names = node.kind == ModelTree.Kind.WORD ? words : labels;
        return new int[] {node.kind.ordinal(), names.indexOf(node.name),
            node.parent == null ? -1 : node.parent.number, node.parts.size(), node.mark};
    }

    String nodeLines(int t) {
        StringBuilder out = new StringBuilder();
        for (int x = 0; x < trees.get(t).nodes.size(); x++) {
            ModelWhole.line(out, nodeCells(t, x));
        }
        return out.toString();
    }
}
