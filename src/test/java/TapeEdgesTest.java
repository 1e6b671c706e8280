/** The edges of promises 1 to 3, sentence by sentence, and the 512 calls of an object. */
public final class TapeEdgesTest {
    private static final Harness H = new Harness("TapeEdgesTest");
    private static final int BLANKS = 0x20202020;

    public static void main(String[] args) {
        noTrees();
        aSentenceWithoutWordsThatWasNotRead();
        anEmptyTape();
        twentyBytesMore();
        theHighestOfEachNumberFirst();
        moreThan1000();
        aRefusedFeedChangesNothing();
        keepsItsFirstBytes();
        endBelow0OrNotSoMany();
        theTapeIsEmptyThen();
        theTapeStays();
        objectsAreApart();
        usedForAtMost512Calls();
        H.done();
    }

    private static int blanks(TreeJoiner x) {
        return x.feed(BLANKS, BLANKS, BLANKS, BLANKS, BLANKS);
    }

    private static int end(TreeJoiner x, int n) {
        x.end(n);
        return n;
    }

    private static void refused(String what, TreeJoiner x) {
        H.fails(what, UnsupportedOperationException.class, () -> blanks(x));
    }

    // Promise 1: "No trees".
    private static void noTrees() {
        TreeJoiner x = new TreeJoiner();
        H.same("trees", 0, x.count(0));
        H.same("LABELs", 0, x.count(1));
        H.same("WORDs", 0, x.count(2));
        H.index("node(0, 0, 0)", () -> x.node(0, 0, 0));
        H.index("letter(false, 0, 0)", () -> x.letter(false, 0, 0));
        H.index("letter(true, 0, 0)", () -> x.letter(true, 0, 0));
        H.same("clear", 0, x.clear());
    }

    // Promise 1: "a sentence without words that was not read".
    private static void aSentenceWithoutWordsThatWasNotRead() {
        TreeJoiner x = new TreeJoiner();
        H.same("words", 0, x.count(3));
        H.same("ways", TreeJoiner.NONE, x.count(4));
        H.same("uses", 0, x.count(5));
        H.same("nodes", 0, x.count(6));
        H.same("fault", 0, x.fault());
        H.state("choose(0)", () -> x.choose(0));
        H.index("use(0, 0)", () -> x.use(0, 0));
        H.index("whole(0, 0)", () -> x.whole(0, 0));
        H.goodTree(x, "S(a)");
        H.goodRead(x, "S", 0);
        H.index("choose(0) of no way", () -> x.choose(0));
    }

    // Promise 1: "an empty tape".
    private static void anEmptyTape() {
        TreeJoiner x = new TreeJoiner();
        H.argument("end(1)", () -> end(x, 1));
        H.same("end(0)", 0, end(x, 0));
        H.same("tree of it", -1, x.tree());
        H.same("its fault", 2, x.fault());
        H.same("sentence of it", 0, x.sentence());
        H.same("no fault", 0, x.fault());
        H.same("label of it", -1, x.read());
        H.same("its fault", 2, x.fault());
        H.same("the first feed", 20, blanks(x));
    }

    // Promise 2: "Twenty bytes more of the tape ...: how many it has."
    private static void twentyBytesMore() {
        TreeJoiner x = new TreeJoiner();
        for (int bytes = 20; bytes <= 1000; bytes += 20) {
            H.same("feed", bytes, blanks(x));
        }
        for (int n = 0; n <= 980; n += 7) {
            TreeJoiner y = new TreeJoiner();
            for (int fed = 0; fed < n; fed += 20) {
                blanks(y);
            }
            end(y, n);
            H.same("feed behind end(" + n + ")", n + 20, blanks(y));
        }
    }

    // Promise 2: "the highest of each number first": each byte of each number, and the sign.
    private static void theHighestOfEachNumberFirst() {
        for (int at = 0; at < 20; at++) {
            TreeJoiner x = new TreeJoiner();
            int[] five = {BLANKS, BLANKS, BLANKS, BLANKS, BLANKS};
            // Byte 255 begins no token: the fault's place is the place of the byte.
            five[at / 4] |= 255 << (24 - 8 * (at % 4));
            H.same("feed", 20, x.feed(five[0], five[1], five[2], five[3], five[4]));
            H.same("the byte at " + at, -1 - at, x.sentence());
            H.same("its fault", 1, x.fault());
        }
        TreeJoiner x = new TreeJoiner();
        x.feed(Integer.MIN_VALUE, -1, 0, Integer.MAX_VALUE, 1);
        H.same("bytes 128, 255, 0, 127, 1", -1, x.tree());
        H.same("their fault", 1, x.fault());
        x.feed(0x61202020, 0x20622020, 0x20206320, 0x20202064, 0x61626364);
        H.same("words: the last of a number goes on in the next", 4, x.sentence());
    }

    // Promise 2: "UnsupportedOperationException: they would be more than 1000."
    private static void moreThan1000() {
        TreeJoiner x = new TreeJoiner();
        for (int i = 0; i < 49; i++) {
            blanks(x);
        }
        end(x, 979);
        H.same("feed to 999", 999, blanks(x));
        end(x, 980);
        H.same("feed to 1000", 1000, blanks(x));
        refused("feed to 1020", x);
        for (int n = 999; n > 980; n--) {
            end(x, n);
            refused("feed to " + (n + 20), x);
        }
        end(x, 980);
        H.same("feed to 1000 again", 1000, blanks(x));
    }

    // "A call that throws changes nothing": not even the bytes up to 1000.
    private static void aRefusedFeedChangesNothing() {
        TreeJoiner x = new TreeJoiner();
        for (int i = 0; i < 50; i++) {
            blanks(x);
        }
        end(x, 990);
        H.fails("feed to 1010", UnsupportedOperationException.class,
                () -> x.feed(0x53286129, 0x53286129, 0x53286129, 0x53286129, 0x53286129));
        H.argument("end(991)", () -> end(x, 991));
        H.same("end(990)", 990, end(x, 990));
        H.same("the tape has no word", 0, x.sentence());
        Harness.put(x, "S(a)" + " ".repeat(980));
        refused("feed to 1004", x);
        H.same("the tape is a tree", 0, x.tree());
        H.same("fault", 0, x.fault());
    }

    // Promise 3: "The tape keeps its first n bytes."
    private static void keepsItsFirstBytes() {
        String text = "a b c d e f g h";
        for (int n = 0; n <= text.length(); n++) {
            TreeJoiner x = new TreeJoiner();
            Harness.put(x, text);
            end(x, n);
            H.same("words of the first " + n, (n + 1) / 2, x.sentence());
        }
        // What was cut off does not come back.
        TreeJoiner x = new TreeJoiner();
        Harness.put(x, "a b c d");
        end(x, 3);
        H.same("feed", 23, blanks(x));
        end(x, 7);
        H.same("words", 2, x.sentence());
    }

    // Promise 3: "IllegalArgumentException: n is below 0, or it has not so many."
    private static void endBelow0OrNotSoMany() {
        TreeJoiner x = new TreeJoiner();
        int[] lengths = {0, 1, 19, 20, 21, 500, 999, 1000};
        for (int length : lengths) {
            Harness.put(x, " ".repeat(length));
            for (int n : new int[] {-1, -2, Integer.MIN_VALUE, length + 1, length + 20, 1001,
                Integer.MAX_VALUE}) {
                H.argument("end(" + n + ") of " + length, () -> end(x, n));
            }
            H.same("end(" + length + ")", length, end(x, length));
            H.same("the text ends at", -1 - length, x.tree());
        }
        Harness.put(x, "  ");
        H.same("end(1)", 1, end(x, 1));
        H.argument("end(2) behind it", () -> end(x, 2));
        H.same("end(0)", 0, end(x, 0));
        H.argument("end(1) behind it", () -> end(x, 1));
    }

    // Promises 4 to 6: "The tape (which is empty then)", with a fault and without.
    private static void theTapeIsEmptyThen() {
        for (String text : new String[] {"", " ", "S(a)", "S(", ".", "a", "a b", "S", "a A", "S S"}) {
            TreeJoiner x = new TreeJoiner();
            Harness.tree(x, text);
            H.argument("end(1) behind tree " + text, () -> end(x, 1));
            H.same("feed behind tree " + text, 20, blanks(x));
            Harness.sentence(x, text);
            H.argument("end(1) behind sentence " + text, () -> end(x, 1));
            H.same("feed behind sentence " + text, 20, blanks(x));
            Harness.read(x, text);
            H.argument("end(1) behind read " + text, () -> end(x, 1));
            H.same("feed behind read " + text, 20, blanks(x));
        }
    }

    // No other call says that it changes the tape.
    private static void theTapeStays() {
        TreeJoiner x = Harness.with("S(a)");
        Harness.sentence(x, "a");
        Harness.read(x, "S");
        Harness.put(x, "S(b)");
        x.choose(0);
        Harness.everything(x);
        H.same("clear", 1, x.clear());
        H.same("feed behind these", 24, blanks(x));
        H.same("tree", 0, x.tree());
        H.same("its WORD", 'b', x.letter(true, 0, 0));
    }

    // Each object is a new one: nothing is shared.
    private static void objectsAreApart() {
        TreeJoiner x = Harness.with("S(a)");
        TreeJoiner y = new TreeJoiner();
        Harness.sentence(x, "a");
        Harness.read(x, "S");
        x.choose(0);
        blanks(x);
        H.same("another object", "0 0 0 0 -1 0 0 0\n", Harness.state(y));
        H.same("its tape", 20, blanks(y));
        H.same("its sentence", 0, y.sentence());
        H.same("the first one", "1 1 1 1 1 1 2 0\n0 -1 -1 0 1 -1 -1\n0 0 -1 0 1 1\n0 1 0 0 1 0\n",
                Harness.state(x));
    }

    // "An object is used for at most 512 calls after it has been made": the 512th still answers.
    private static void usedForAtMost512Calls() {
        TreeJoiner x = new TreeJoiner();
        int calls = 0;
        for (int round = 0; round < 16; round++) {
            x.feed(0x53286120, 0x41286229, 0x29202020, BLANKS, BLANKS);
            H.same("tree", round, x.tree());
            calls += 2;
        }
        x.feed(0x61206220, BLANKS, BLANKS, BLANKS, BLANKS);
        H.same("sentence", 2, x.sentence());
        calls += 2;
        while (calls < 506) {
            x.feed(0x53202020, BLANKS, BLANKS, BLANKS, BLANKS);
            H.same("read", 16, x.read());
            H.same("choose", 1, x.choose(calls % 16));
            H.same("use", calls % 16, x.use(0, 0));
            calls += 4;
        }
        while (calls < 510) {
            H.same("choose", 1, x.choose(15));
            calls++;
        }
        H.same("call 511", 4, x.count(6));
        H.same("call 512", 15, x.use(0, 0));
    }
}
