import java.nio.charset.StandardCharsets;
import java.util.function.IntFunction;
import java.util.function.IntSupplier;

/** What all tests share: texts go on the tape, answers are compared, failures are counted. */
final class Harness {
    private final String name;
    private int checks;
    private int wrong;

    Harness(String name) {
        this.name = name;
    }

    void same(String what, long want, long got) {
        checks++;
        if (want != got) {
            wrong++;
            System.out.println(name + ": " + what + " answered " + got + ", due is " + want);
        }
    }

    void same(String what, String want, String got) {
        checks++;
        if (!want.equals(got)) {
            wrong++;
            System.out.println(name + ": " + what + " answered\n" + got + "\ndue is\n" + want);
        }
    }

    /** The very class of the exception counts, not one above it. */
    void fails(String what, Class<? extends RuntimeException> want, IntSupplier call) {
        checks++;
        String got;
        try {
            got = "answered " + call.getAsInt();
        } catch (RuntimeException e) {
            if (e.getClass() == want) {
                return;
            }
            got = "threw " + e;
        }
        wrong++;
        System.out.println(name + ": " + what + " " + got + ", due is " + want.getName());
    }

    void index(String what, IntSupplier call) {
        fails(what, IndexOutOfBoundsException.class, call);
    }

    void argument(String what, IntSupplier call) {
        fails(what, IllegalArgumentException.class, call);
    }

    void state(String what, IntSupplier call) {
        fails(what, IllegalStateException.class, call);
    }

    void goodTree(TreeJoiner x, String text) {
        answer(x, "tree", text, x.count(0), tree(x, text), 0);
    }

    void badTree(TreeJoiner x, String text, int code, int place) {
        answer(x, "tree", text, -1 - place, tree(x, text), code);
    }

    void goodSentence(TreeJoiner x, String text, int words) {
        answer(x, "sentence", text, words, sentence(x, text), 0);
        same("words behind sentence " + text, words, x.count(3));
    }

    void badSentence(TreeJoiner x, String text, int code, int place) {
        answer(x, "sentence", text, -1 - place, sentence(x, text), code);
    }

    void goodRead(TreeJoiner x, String text, int ways) {
        answer(x, "read", text, ways, read(x, text), 0);
        same("ways behind read " + text, ways, x.count(4));
    }

    void badRead(TreeJoiner x, String text, int code, int place) {
        answer(x, "read", text, -1 - place, read(x, text), code);
        same("ways behind read " + text, TreeJoiner.NONE, x.count(4));
    }

    private void answer(TreeJoiner x, String call, String text, int want, int got, int code) {
        same(call + " " + text, want, got);
        same("fault of " + call + " " + text, code, x.fault());
    }

    void done() {
        System.out.println(name + ": " + checks + " checks, " + wrong + " wrong");
        if (wrong != 0 || checks == 0) {
            System.exit(1);
        }
    }

    /** Makes the text the whole tape. */
    static void put(TreeJoiner x, String text) {
        byte[] bytes = text.getBytes(StandardCharsets.ISO_8859_1);
        x.end(0);
        for (int at = 0; at < bytes.length; at += 20) {
            int[] five = new int[5];
            for (int i = 0; i < 20 && at + i < bytes.length; i++) {
                five[i / 4] |= (bytes[at + i] & 255) << (24 - 8 * (i % 4));
            }
            x.feed(five[0], five[1], five[2], five[3], five[4]);
        }
        x.end(bytes.length);
    }

    static int tree(TreeJoiner x, String text) {
        put(x, text);
        return x.tree();
    }

    static int sentence(TreeJoiner x, String text) {
        put(x, text);
        return x.sentence();
    }

    static int read(TreeJoiner x, String text) {
        put(x, text);
        return x.read();
    }

    static TreeJoiner with(String... trees) {
        TreeJoiner x = new TreeJoiner();
        for (String text : trees) {
            if (tree(x, text) < 0) {
                throw new AssertionError("the test's own tree has fault " + x.fault() + ": " + text);
            }
        }
        return x;
    }

    /** 16 trees, 16 LABELs, 32 WORDs, and 8 words that are read as O in 10000000 ways. */
    static TreeJoiner full() {
        TreeJoiner x = with("S(a b c d e f g h i j k)", "S(l m n o p q r s t u v)",
                "S(w x y z aa bb cc dd ee ff)", "S(A!B!C!D!E!F!G!H!I!J!a)", "S(K!L!M!N!O!a)");
        for (int t = 5; t < 15; t++) {
            tree(x, "O(a O*)");
        }
        tree(x, "O(a)");
        sentence(x, "a a a a a a a a");
        return x;
    }

    /** All answers about the chosen way, a line each. */
    static String uses(TreeJoiner x) {
        StringBuilder out = new StringBuilder();
        for (int u = 0; u < x.count(5); u++) {
            for (int what = 0; what <= 6; what++) {
                out.append(what == 0 ? "" : " ").append(x.use(u, what));
            }
            out.append('\n');
        }
        return out.toString();
    }

    static String whole(TreeJoiner x) {
        StringBuilder out = new StringBuilder();
        for (int n = 0; n < x.count(6); n++) {
            for (int what = 0; what <= 5; what++) {
                out.append(what == 0 ? "" : " ").append(x.whole(n, what));
            }
            out.append('\n');
        }
        return out.toString();
    }

    static String nodes(TreeJoiner x, int tree, int nodes) {
        StringBuilder out = new StringBuilder();
        for (int n = 0; n < nodes; n++) {
            for (int what = 0; what <= 4; what++) {
                out.append(what == 0 ? "" : " ").append(x.node(tree, n, what));
            }
            out.append('\n');
        }
        return out.toString();
    }

    static String name(TreeJoiner x, boolean word, int number, int length) {
        StringBuilder out = new StringBuilder();
        for (int i = 0; i < length; i++) {
            out.append((char) x.letter(word, number, i));
        }
        return out.toString();
    }

    /** Answers of the calls for 0, 1, 2 and so on, up to the one that throws. */
    private static String list(IntFunction<String> call) {
        StringBuilder out = new StringBuilder();
        for (int i = 0; i < 1000; i++) {
            try {
                out.append(call.apply(i));
            } catch (IndexOutOfBoundsException e) {
                return out.append('\n').toString();
            }
        }
        throw new AssertionError("there is no end of it");
    }

    private static String names(TreeJoiner x, boolean word, int many) {
        StringBuilder out = new StringBuilder();
        for (int i = 0; i < many; i++) {
            int number = i;
            out.append(list(at -> String.valueOf((char) x.letter(word, number, at))));
        }
        return out.toString();
    }

    /** Everything that can be asked without changing anything, but for the tape. */
    static String everything(TreeJoiner x) {
        StringBuilder out = new StringBuilder(state(x));
        out.append(names(x, false, x.count(1))).append(names(x, true, x.count(2)));
        for (int i = 0; i < x.count(0); i++) {
            int t = i;
            out.append(list(n -> {
                StringBuilder cells = new StringBuilder();
                for (int what = 0; what <= 4; what++) {
                    cells.append(x.node(t, n, what)).append(what == 4 ? ", " : " ");
                }
                return cells.toString();
            }));
        }
        return out.toString();
    }

    /** The counts, the fault, and the chosen way with its whole tree. */
    static String state(TreeJoiner x) {
        StringBuilder out = new StringBuilder();
        for (int what = 0; what <= 6; what++) {
            out.append(x.count(what)).append(' ');
        }
        return out.append(x.fault()).append('\n').append(uses(x)).append(whole(x)).toString();
    }
}
