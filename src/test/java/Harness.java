import java.nio.charset.StandardCharsets;
import java.util.function.IntSupplier;

/** What all tests share: texts go on the tape, answers are compared, failures are counted. */
final class Harness {
    private final String name;
    private int checks;
    private int wrong;

    Harness(String name) {
        this.name = name;
    }

    void same(String what, long want, long got) {
        checks++;
        if (want != got) {
            wrong++;
            System.out.println(name + ": " + what + " answered " + got + ", due is " + want);
        }
    }

    void same(String what, String want, String got) {
        checks++;
        if (!want.equals(got)) {
            wrong++;
            System.out.println(name + ": " + what + " answered\n" + got + "\ndue is\n" + want);
        }
    }

    /** The very class of the exception counts, not one above it. */
    void fails(String what, Class<? extends RuntimeException> want, IntSupplier call) {
        checks++;
        String got;
        try {
            got = "answered " + call.getAsInt();
        } catch (RuntimeException e) {
            if (e.getClass() == want) {
                return;
            }
            got = "threw " + e;
        }
        wrong++;
        System.out.println(name + ": " + what + " " + got + ", due is " + want.getName());
    }

    void index(String what, IntSupplier call) {
        fails(what, IndexOutOfBoundsException.class, call);
    }

    void argument(String what, IntSupplier call) {
        fails(what, IllegalArgumentException.class, call);
    }

    void state(String what, IntSupplier call) {
        fails(what, IllegalStateException.class, call);
    }

    void done() {
        System.out.println(name + ": " + checks + " checks, " + wrong + " wrong");
        if (wrong != 0 || checks == 0) {
            System.exit(1);
        }
    }

    /** Makes the text the whole tape. */
    static void put(TreeJoiner x, String text) {
        byte[] bytes = text.getBytes(StandardCharsets.ISO_8859_1);
        x.end(0);
        for (int at = 0; at < bytes.length; at += 20) {
            int[] five = new int[5];
            for (int i = 0; i < 20 && at + i < bytes.length; i++) {
                five[i / 4] |= (bytes[at + i] & 255) << (24 - 8 * (i % 4));
            }
            x.feed(five[0], five[1], five[2], five[3], five[4]);
        }
        x.end(bytes.length);
    }

    static int tree(TreeJoiner x, String text) {
        put(x, text);
        return x.tree();
    }

    static int sentence(TreeJoiner x, String text) {
        put(x, text);
        return x.sentence();
    }

    static int read(TreeJoiner x, String text) {
        put(x, text);
        return x.read();
    }

    static TreeJoiner with(String... trees) {
        TreeJoiner x = new TreeJoiner();
        for (String text : trees) {
            if (tree(x, text) < 0) {
                throw new AssertionError("the test's own tree has fault " + x.fault() + ": " + text);
            }
        }
        return x;
    }

    /** All answers about the chosen way, a line each. */
    static String uses(TreeJoiner x) {
        StringBuilder out = new StringBuilder();
        for (int u = 0; u < x.count(5); u++) {
            for (int what = 0; what <= 6; what++) {
                out.append(what == 0 ? "" : " ").append(x.use(u, what));
            }
            out.append('\n');
        }
        return out.toString();
    }

    static String whole(TreeJoiner x) {
        StringBuilder out = new StringBuilder();
        for (int n = 0; n < x.count(6); n++) {
            for (int what = 0; what <= 5; what++) {
                out.append(what == 0 ? "" : " ").append(x.whole(n, what));
            }
            out.append('\n');
        }
        return out.toString();
    }

    static String nodes(TreeJoiner x, int tree, int nodes) {
        StringBuilder out = new StringBuilder();
        for (int n = 0; n < nodes; n++) {
            for (int what = 0; what <= 4; what++) {
                out.append(what == 0 ? "" : " ").append(x.node(tree, n, what));
            }
            out.append('\n');
        }
        return out.toString();
    }

    static String name(TreeJoiner x, boolean word, int number, int length) {
        StringBuilder out = new StringBuilder();
        for (int i = 0; i < length; i++) {
            out.append((char) x.letter(word, number, i));
        }
        return out.toString();
    }

    /** Everything that can be asked without changing anything, but for the tape. */
    static String state(TreeJoiner x) {
        StringBuilder out = new StringBuilder();
        for (int what = 0; what <= 6; what++) {
            out.append(x.count(what)).append(' ');
        }
        return out.append(x.fault()).append('\n').append(uses(x)).append(whole(x)).toString();
    }
}
