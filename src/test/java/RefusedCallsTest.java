import java.util.ArrayList;
import java.util.List;
import java.util.function.Supplier;
import java.util.function.ToIntFunction;

/**
 * "Methods throw what their comments name, the one named first when several would do." and "A call
 * that throws changes nothing.": each refused call, in each kind of state, on an object beside a
 * twin on which it was not made; all answers behind it must be the twin's.
 */
public final class RefusedCallsTest {
    private static final Harness H = new Harness("RefusedCallsTest");
    private static final int LOWEST = Integer.MIN_VALUE;
    private static final int HIGHEST = Integer.MAX_VALUE;

    /** A state by its making, with the length of its tape. */
    private record State(String name, int tape, Supplier<TreeJoiner> make) { }

    private record Refused(String name, Class<? extends RuntimeException> due,
            ToIntFunction<TreeJoiner> call) { }

    public static void main(String[] args) {
        for (State state : states()) {
            List<Refused> calls = refusedIn(state);
            for (Refused refused : calls) {
                alone(state, refused);
            }
            allTogether(state, calls);
        }
        H.done();
    }

    private static List<State> states() {
        return List.of(
                new State("a new object", 0, TreeJoiner::new),
                new State("a full tape", 1000, () -> tape(new TreeJoiner(), 1000)),
                new State("a tape of 981", 981, () -> tape(chosen(), 981)),
                new State("trees and no sentence", 5, () -> tape(trees(), 5)),
                new State("a sentence that was not read", 20, () -> tape(spoken("a b"), 20)),
                new State("a sentence read in no way", 1, () -> tape(readAs("T"), 1)),
                new State("a sentence read, no way chosen", 0, () -> readAs("S")),
                new State("a way chosen", 999, () -> tape(chosen(), 999)),
                new State("a fault of tree", 7, () -> faulty(Harness::tree)),
                new State("a fault of sentence", 7, () -> faulty(Harness::sentence)),
                new State("a fault of read", 7, () -> faulty(Harness::read)),
                new State("all full", 1000, () -> tape(full(), 1000)),
                new State("cleared", 4, () -> cleared()));
    }

    private interface Parser {
        int parse(TreeJoiner x, String text);
    }

    private static TreeJoiner trees() {
        return Harness.with("S(a b)", "S(a S(b))", "S(S* c)");
    }

    private static TreeJoiner spoken(String words) {
        TreeJoiner x = trees();
        Harness.sentence(x, words);
        return x;
    }

    private static TreeJoiner readAs(String label) {
        TreeJoiner x = spoken("a b c");
        Harness.read(x, label);
        return x;
    }

    private static TreeJoiner chosen() {
        TreeJoiner x = readAs("S");
        x.choose(1);
        return x;
    }

    private static TreeJoiner faulty(Parser parser) {
        TreeJoiner x = chosen();
        parser.parse(x, "S.");
        return tape(x, 7);
    }

    private static TreeJoiner cleared() {
        TreeJoiner x = tape(chosen(), 4);
        x.clear();
        return x;
    }

    private static TreeJoiner full() {
        TreeJoiner x = Harness.full();
        Harness.read(x, "O");
        x.choose(7654321);
        return x;
    }

    /** A tape that is a tree where it is long enough. */
    private static TreeJoiner tape(TreeJoiner x, int length) {
        Harness.put(x, ("S(d)" + " ".repeat(996)).substring(0, length));
        return x;
    }

    private static List<Refused> refusedIn(State state) {
        TreeJoiner x = state.make.get();
        List<Refused> calls = new ArrayList<>();
        if (state.tape > 980) {
            calls.add(new Refused("feed", UnsupportedOperationException.class,
                    y -> y.feed(0x53286529, -1, 0, LOWEST, HIGHEST)));
        }
        for (int n : new int[] {-1, LOWEST, state.tape + 1, state.tape + 20, HIGHEST}) {
            calls.add(argument("end(" + n + ")", y -> {
                y.end(n);
                return 0;
            }));
        }
        addChoose(calls, x.count(4));
        addPairs(calls, x.count(5), x.count(6));
        addNodes(calls, x.count(0));
        addLetters(calls, x.count(1), x.count(2));
        for (int what : new int[] {-1, 7, LOWEST, HIGHEST}) {
            calls.add(argument("count(" + what + ")", y -> y.count(what)));
        }
        return calls;
    }

    private static Refused index(String name, ToIntFunction<TreeJoiner> call) {
        return new Refused(name, IndexOutOfBoundsException.class, call);
    }

    private static Refused argument(String name, ToIntFunction<TreeJoiner> call) {
        return new Refused(name, IllegalArgumentException.class, call);
    }

    private static void addChoose(List<Refused> calls, int ways) {
        for (int k : new int[] {-1, LOWEST, Math.max(ways, 0), HIGHEST}) {
            String name = "choose(" + k + ")";
            calls.add(ways >= 0 ? index(name, y -> y.choose(k))
                    : new Refused(name, IllegalStateException.class, y -> y.choose(k)));
        }
    }

    private static void addPairs(List<Refused> calls, int uses, int nodes) {
        for (int what : new int[] {0, -1, 7, LOWEST, HIGHEST}) {
            for (int u : new int[] {-1, uses, LOWEST, HIGHEST}) {
                calls.add(index("use(" + u + ", " + what + ")", y -> y.use(u, what)));
            }
            for (int n : new int[] {-1, nodes, LOWEST, HIGHEST}) {
                calls.add(index("whole(" + n + ", " + what + ")", y -> y.whole(n, what)));
            }
            if (what != 0 && uses > 0) {
                calls.add(argument("use(last, " + what + ")", y -> y.use(uses - 1, what)));
                calls.add(argument("whole(last, " + what + ")", y -> y.whole(nodes - 1, what)));
            }
        }
    }

    private static void addNodes(List<Refused> calls, int trees) {
        for (int what : new int[] {0, -1, 5, LOWEST, HIGHEST}) {
            for (int t : new int[] {-1, trees, LOWEST, HIGHEST}) {
                calls.add(index("node(" + t + ", 0, " + what + ")", y -> y.node(t, 0, what)));
            }
            for (int n : new int[] {-1, 12, LOWEST, HIGHEST}) {
                calls.add(index("node(0, " + n + ", " + what + ")", y -> y.node(0, n, what)));
            }
            if (what != 0 && trees > 0) {
                calls.add(argument("node(last, 0, " + what + ")",
                        y -> y.node(trees - 1, 0, what)));
            }
        }
    }

    private static void addLetters(List<Refused> calls, int labels, int words) {
        for (boolean word : new boolean[] {false, true}) {
            for (int number : new int[] {-1, word ? words : labels, LOWEST, HIGHEST}) {
                calls.add(index("letter(" + word + ", " + number + ", 0)",
                        y -> y.letter(word, number, 0)));
            }
            for (int i : new int[] {-1, word ? 12 : 8, LOWEST, HIGHEST}) {
                calls.add(index("letter(" + word + ", 0, " + i + ")", y -> y.letter(word, 0, i)));
            }
        }
    }

    private static void alone(State state, Refused refused) {
        TreeJoiner x = state.make.get();
        String name = refused.name + " of " + state.name;
        H.fails(name, refused.due, () -> refused.call.applyAsInt(x));
        TreeJoiner twin = state.make.get();
        H.same("what is asked behind " + name, Harness.everything(twin), Harness.everything(x));
        H.same("what is done behind " + name, goOn(twin, state.tape), goOn(x, state.tape));
    }

    private static void allTogether(State state, List<Refused> calls) {
        TreeJoiner x = state.make.get();
        for (Refused refused : calls) {
            H.fails(refused.name + " again", refused.due, () -> refused.call.applyAsInt(x));
        }
        TreeJoiner twin = state.make.get();
        H.same("what is asked behind all", Harness.everything(twin), Harness.everything(x));
        H.same("what is done behind all", goOn(twin, state.tape), goOn(x, state.tape));
    }

    /** The tape, the sentence and the trees, by what they answer to further calls. */
    private static String goOn(TreeJoiner x, int length) {
        StringBuilder out = new StringBuilder();
        if (length <= 980) {
            out.append(x.feed(0x20202020, 0x20202020, 0x20202020, 0x20202020, 0x20202020));
        }
        x.end(length);
        out.append(' ').append(x.tree()).append(' ').append(x.fault()).append('\n');
        for (String label : new String[] {"S", "O"}) {
            int ways = Harness.read(x, label);
            out.append(ways).append('\n');
            if (ways > 0) {
                x.choose(ways - 1);
            }
            out.append(Harness.everything(x));
        }
        return out.append(x.clear()).toString();
    }
}
