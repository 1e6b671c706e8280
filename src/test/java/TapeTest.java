/** Promises 1 to 3: a new object, feed, end. */
public final class TapeTest {
    private static final Harness H = new Harness("TapeTest");

    public static void main(String[] args) {
        newObject();
        bytesAreInOrder();
        atMostAThousand();
        endKeepsTheFirst();
        everyParserEmptiesTheTape();
        H.done();
    }

    private static void newObject() {
        TreeJoiner x = new TreeJoiner();
        H.same("a new object", "0 0 0 0 -1 0 0 0\n", Harness.state(x));
        H.state("choose(0) of a new object", () -> x.choose(0));
        H.index("use(0, 0) of a new object", () -> x.use(0, 0));
        H.index("whole(0, 0) of a new object", () -> x.whole(0, 0));
        H.index("node(0, 0, 0) of a new object", () -> x.node(0, 0, 0));
        H.index("letter of a new object", () -> x.letter(false, 0, 0));
        H.argument("end(1) of a new object", () -> end(x, 1));
        H.same("its tape's tree", -1, x.tree());
        H.same("its fault", 2, x.fault());
        H.same("its tape's sentence", 0, new TreeJoiner().sentence());
        H.same("its tape's label", -1, new TreeJoiner().read());
    }

    private static void bytesAreInOrder() {
        TreeJoiner x = new TreeJoiner();
        // "ABCD" "EFG1" "(abc" "defg" "hi) ", the highest byte of each number first.
        H.same("feed", 20, x.feed(0x41424344, 0x45464731, 0x28616263, 0x64656667, 0x68692920));
        H.same("tree", 0, x.tree());
        H.same("the LABEL", "ABCDEFG1", Harness.name(x, false, 0, 8));
        H.same("the WORD", "abcdefghi", Harness.name(x, true, 0, 9));
        // A byte above 127 stays one byte, and no token begins with it.
        H.same("feed", 20, x.feed(0x20202020, 0xE1202020, -1, -1, -1));
        H.same("bytes above 127", -5, x.tree());
        H.same("their fault", 1, x.fault());
    }

    private static void atMostAThousand() {
        TreeJoiner x = new TreeJoiner();
        for (int i = 1; i <= 50; i++) {
            H.same("feed " + i, 20 * i, blanks(x));
        }
        H.fails("feed 51", UnsupportedOperationException.class, () -> blanks(x));
        H.same("end(1000)", 0, end(x, 1000));
        H.argument("end(1001)", () -> end(x, 1001));
        H.same("end(981)", 0, end(x, 981));
        H.fails("feed to 1001", UnsupportedOperationException.class, () -> blanks(x));
        H.same("end(980)", 0, end(x, 980));
        H.same("feed to 1000", 1000, blanks(x));
        H.same("a thousand blanks", -1001, x.tree());
    }

    private static void endKeepsTheFirst() {
        TreeJoiner x = new TreeJoiner();
        Harness.put(x, "S(a b) c");
        H.argument("end(-1)", () -> end(x, -1));
        H.argument("end(9)", () -> end(x, 9));
        H.argument("end(lowest)", () -> end(x, Integer.MIN_VALUE));
        H.argument("end(highest)", () -> end(x, Integer.MAX_VALUE));
        H.same("end(8) of 8", 0, end(x, 8));
        H.same("end(6)", 0, end(x, 6));
        H.argument("end(7) behind end(6)", () -> end(x, 7));
        H.same("feed behind end(6)", 26, blanks(x));
        H.same("tree", 0, x.tree());
        H.same("its words", 2, x.count(2));
        Harness.put(x, "S(a)");
        H.same("end(0)", 0, end(x, 0));
        H.same("tree behind end(0)", -1, x.tree());
    }

    private static void everyParserEmptiesTheTape() {
        String[] texts = {"S(a)", "?", "a b", "S", ""};
        for (String text : texts) {
            TreeJoiner x = new TreeJoiner();
            Harness.tree(x, text);
            H.same("feed behind tree of " + text, 20, blanks(x));
            Harness.sentence(x, text);
            H.same("feed behind sentence of " + text, 20, blanks(x));
            Harness.read(x, text);
            H.same("feed behind read of " + text, 20, blanks(x));
            x.clear();
            H.same("feed behind clear", 40, blanks(x));
        }
    }

    private static int blanks(TreeJoiner x) {
        return x.feed(0x20202020, 0x20202020, 0x20202020, 0x20202020, 0x20202020);
    }

    private static int end(TreeJoiner x, int n) {
        x.end(n);
        return 0;
    }
}
