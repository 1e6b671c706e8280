import java.math.BigInteger;

/** The whole object as the document tells of it, made of the plain references. */
final class ModelJoiner {
    private static final BigInteger MANY = BigInteger.valueOf(1000000000);

    private final StringBuilder tape = new StringBuilder();
    private final ModelParser parser = new ModelParser();
    // Of a sentence that was not read there are none.
    private ModelWays.Ways<ModelWays.Use> ways;
    private ModelWhole chosen;

    int feed(int... five) {
        if (tape.length() + 20 > 1000) {
            throw new UnsupportedOperationException();
        }
        for (int number : five) {
            for (int shift = 24; shift >= 0; shift -= 8) {
                tape.append((char) (number >>> shift & 255));
            }
        }
        return tape.length();
    }

    void end(int n) {
        if (n < 0 || n > tape.length()) {
            throw new IllegalArgumentException();
        }
        tape.setLength(n);
    }

    int tree() {
        int answer = parser.tree(emptied());
        if (answer >= 0) {
            unread();
        }
        return answer;
    }

    int sentence() {
        int answer = parser.sentence(emptied());
        if (answer >= 0) {
            unread();
        }
        return answer;
    }

    int read() {
        unread();
        String text = emptied();
        int answer = parser.label(text);
        if (answer < 0) {
            return answer;
        }
        ways = new ModelWays(parser.trees, parser.spoken.toArray(new String[0])).read(text.trim());
        return count(4);
    }

    int fault() {
        return parser.fault;
    }

    int choose(int k) {
        if (ways == null) {
            throw new IllegalStateException();
        }
        index(k, count(4));
        chosen = new ModelWhole(parser.trees, ways.nth(BigInteger.valueOf(k)));
        return count(5);
    }

    int use(int u, int what) {
        index(u, count(5));
        return cell(chosen.useCells(u), what);
    }

    int whole(int x, int what) {
        index(x, count(6));
        return cell(chosen.nodes.get(x), what);
    }

    int node(int t, int x, int what) {
        index(t, parser.trees.size());
        index(x, nodes(t));
        return cell(parser.nodeCells(t, x), what);
    }

    int letter(boolean word, int number, int i) {
        index(number, word ? parser.words.size() : parser.labels.size());
        String name = word ? parser.words.get(number) : parser.labels.get(number);
        index(i, name.length());
        return name.charAt(i);
    }

    int clear() {
        unread();
        return parser.clear();
    }

    int count(int what) {
        int[] counts = {parser.trees.size(), parser.labels.size(), parser.words.size(),
            parser.spoken.size(), ways == null ? -1 : ways.size().min(MANY).intValueExact(),
            chosen == null ? 0 : chosen.uses.size(), chosen == null ? 0 : chosen.nodes.size()};
        return cell(counts, what);
    }

    int tapeLength() {
        return tape.length();
    }

    int nodes(int t) {
        return parser.trees.get(t).nodes.size();
    }

    private String emptied() {
        String text = tape.toString();
        tape.setLength(0);
        return text;
    }

    private void unread() {
        ways = null;
        chosen = null;
    }

    private static void index(int i, int many) {
        if (i < 0 || i >= many) {
            throw new IndexOutOfBoundsException();
        }
    }

    private static int cell(int[] cells, int what) {
        if (what < 0 || what >= cells.length) {
            throw new IllegalArgumentException();
        }
        return cells[what];
    }
}
