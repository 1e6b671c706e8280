import java.nio.charset.StandardCharsets;
import java.util.Map;
import java.util.TreeMap;
import java.util.function.IntSupplier;

/**
 * All promises together: runs of 512 made-up calls on one object, good ones and wrong ones in any
 * order, each answer or exception against the one of ModelJoiner.
 */
public final class RunsAgainstReferenceTest {
    private static final Harness H = new Harness("RunsAgainstReferenceTest");
    private static final int CALLS = 512;
    private static final int RUNS = 120;
    private static final ModelTree.Shape[] SHAPES = {
        new ModelTree.Shape(new String[] {"S"}, 60, 60),
        new ModelTree.Shape(new String[] {"S", "S", "A"}, 20, 40),
        new ModelTree.Shape(new String[] {"S", "A", "B"}, 0, 45),
    };
    // What happened at least once, or the runs would not be worth much.
    private static final String[] DUE = {"feed 0", "feed UnsupportedOperationException", "end 0",
        "end IllegalArgumentException", "tree 0", "tree fault 1", "tree fault 2", "tree fault 3",
        "tree fault 4", "tree fault 5", "tree fault 6", "tree fault 7", "tree fault 8",
        "sentence 0", "sentence fault 1", "sentence fault 2", "sentence fault 3", "read 0",
        "read fault 1", "read fault 2", "fault 0", "choose 0", "choose IllegalStateException",
        "choose IndexOutOfBoundsException", "use 0", "use IndexOutOfBoundsException",
        "use IllegalArgumentException", "whole 0", "whole IndexOutOfBoundsException",
        "whole IllegalArgumentException", "node 0", "node IndexOutOfBoundsException",
        "node IllegalArgumentException", "letter 0", "letter IndexOutOfBoundsException",
        "clear 0", "count 0", "count IllegalArgumentException"};
    private static final Map<String, Integer> SEEN = new TreeMap<>();

    private final Dice dice;
    private final String name;
    private final ModelTree.Shape shape;
    private final int mostNodes;
    private final TreeJoiner object = new TreeJoiner();
    private final ModelJoiner model = new ModelJoiner();
    private int calls;

    private RunsAgainstReferenceTest(int seed) {
        dice = new Dice(seed);
        name = "run " + seed;
        shape = SHAPES[seed % SHAPES.length];
        mostNodes = 3 + dice.roll(5);
    }

    public static void main(String[] args) {
        for (int seed = 1; seed <= RUNS; seed++) {
            new RunsAgainstReferenceTest(seed).run();
        }
        for (String due : DUE) {
            H.same(due + " happened", 1, SEEN.getOrDefault(due, 0) > 0 ? 1 : 0);
        }
        H.done();
    }

    private void run() {
        while (calls < CALLS) {
            int turn = dice.roll(100);
            if (turn < 6) {
                tree();
            } else if (turn < 16) {
                sentence();
            } else if (turn < 20) {
                read();
            } else if (turn < 35) {
                choose();
            } else if (turn < 39) {
                tape();
            } else {
                ask();
            }
        }
    }

    private void tree() {
        put(treeText());
        parse("tree", object::tree, model::tree);
    }

    /** Mostly it is read at once: or there would be few ways to ask for. */
    private void sentence() {
        put(sentenceText());
        parse("sentence", object::sentence, model::sentence);
        if (dice.chance(80)) {
            read();
        }
    }

    private void read() {
        put(labelText());
        parse("read", object::read, model::read);
        if (model.count(4) > 0 && dice.chance(80)) {
            choose();
        }
    }

    /** Both make the call: the answers must be the same, or the exceptions. */
    private int both(String call, String text, IntSupplier ours, IntSupplier due) {
        if (calls == CALLS) {
            return 0;
        }
        calls++;
        String want = outcome(due);
        H.same(name + " call " + calls + " " + call + text, want, outcome(ours));
        boolean thrown = !want.isEmpty() && Character.isLetter(want.charAt(0));
        SEEN.merge(call + " " + (thrown ? want : "0"), 1, Integer::sum);
        return thrown ? 0 : Integer.parseInt(want);
    }

    private static String outcome(IntSupplier call) {
        try {
            return Integer.toString(call.getAsInt());
        } catch (RuntimeException e) {
            return e.getClass().getSimpleName();
        }
    }

    private void parse(String call, IntSupplier ours, IntSupplier due) {
        int answer = both(call, "()", ours, due);
        if (answer < 0) {
            SEEN.merge(call + " fault " + model.fault(), 1, Integer::sum);
        }
        both("fault", "()", object::fault, model::fault);
    }

    private void feed(int[] five) {
        both("feed", "(..)", () -> object.feed(five[0], five[1], five[2], five[3], five[4]),
                () -> model.feed(five));
    }

    private void end(int n) {
        both("end", "(" + n + ")", () -> {
            object.end(n);
            return 0;
        }, () -> {
            model.end(n);
            return 0;
        });
    }

    /** The text behind what is on the tape, which is seldom anything. */
    private void put(String text) {
        byte[] bytes = text.getBytes(StandardCharsets.ISO_8859_1);
        int length = model.tapeLength() + bytes.length;
        if (length > 1000) {
            end(0);
            length = bytes.length;
        }
        for (int at = 0; at < bytes.length; at += 20) {
            int[] five = new int[5];
            for (int i = 0; i < 20 && at + i < bytes.length; i++) {
                five[i / 4] |= (bytes[at + i] & 255) << (24 - 8 * (i % 4));
            }
            feed(five);
        }
        end(Math.min(length, model.tapeLength()));
    }

    private String treeText() {
        if (dice.chance(3)) {
            return MadeUpTexts.crowd(dice);
        }
        if (dice.chance(25)) {
            return dice.pick("S(a)", "S(a S*)", "S(S* a)", "A(a)", "S(S! A!a)");
        }
        if (dice.chance(10)) {
            return dice.pick("a", "A!", "S*", "S(A!)", "S(a S* S*)", "S(a T*)", "S(a",
                    "S(a a a a a a a a a a a a)");
        }
        String text = ModelTree.random(dice, dice.chance(50), 2 + dice.roll(mostNodes), shape)
                .text(dice);
        return dice.chance(25) ? MadeUpTexts.spoil(dice, text) : text;
    }

    private String sentenceText() {
        StringBuilder out = new StringBuilder();
        int words = dice.roll(dice.chance(10) ? 12 : dice.chance(40) ? 9 : 4);
        for (int i = 0; i < words; i++) {
            out.append(dice.pick("a", "a", "a", "a", "a", "b")).append(dice.pick(" ", "\n", "  "));
        }
        return dice.chance(15) ? MadeUpTexts.spoil(dice, out.toString()) : out.toString();
    }

    private String labelText() {
        String text = dice.pick("S", "S", "S ", " S", "A");
        return dice.chance(15) ? MadeUpTexts.spoil(dice, text) : text;
    }

    private void choose() {
        int ways = model.count(4);
        int k = ways > 0 && dice.chance(80) ? dice.roll(ways) : edge(ways);
        both("choose", "(" + k + ")", () -> object.choose(k), () -> model.choose(k));
    }

    private void tape() {
        if (dice.chance(60)) {
            end(edge(model.tapeLength()));
        } else if (dice.chance(10)) {
            // Full to the last byte, and once more.
            for (int fed = model.tapeLength(); fed <= 1000; fed += 20) {
                feed(new int[] {0x20202020, 0x20202020, 0x20202020, 0x20202020, 0x20202020});
            }
        } else if (dice.chance(50)) {
            feed(new int[] {0x61202020, 0x20202020, 0x20202020, 0x20202020, dice.roll(1 << 30)});
        } else if (dice.chance(20)) {
            both("clear", "()", object::clear, model::clear);
        }
    }

    private void ask() {
        int what = dice.chance(90) ? dice.roll(7) : edge(6);
        int kind = dice.roll(model.count(5) > 0 ? 16 : 4);
        if (kind == 0) {
            both("count", "(" + what + ")", () -> object.count(what), () -> model.count(what));
        } else if (kind == 1) {
            int t = some(model.count(0));
            int x = t >= 0 && t < model.count(0) ? some(model.nodes(t)) : edge(11);
            both("node", "(" + t + ", " + x + ", " + what + ")", () -> object.node(t, x, what),
                    () -> model.node(t, x, what));
        } else if (kind == 2) {
            boolean word = dice.chance(50);
            int number = some(model.count(word ? 2 : 1));
            int i = dice.chance(70) ? dice.roll(2) : edge(word ? 12 : 8);
            both("letter", "(" + word + ", " + number + ", " + i + ")",
                    () -> object.letter(word, number, i), () -> model.letter(word, number, i));
        } else {
            askWay(what);
        }
    }

    private void askWay(int what) {
        if (dice.chance(50)) {
            int u = some(model.count(5));
            both("use", "(" + u + ", " + what + ")", () -> object.use(u, what),
                    () -> model.use(u, what));
        } else {
            int x = some(model.count(6));
            both("whole", "(" + x + ", " + what + ")", () -> object.whole(x, what),
                    () -> model.whole(x, what));
        }
    }

    /** Mostly one of 0 to many - 1. */
    private int some(int many) {
        return many > 0 && dice.chance(90) ? dice.roll(many) : edge(many);
    }

    private int edge(int many) {
        int[] edges = {0, 1, -1, many - 1, many, many + 1, Integer.MIN_VALUE, Integer.MAX_VALUE};
        return edges[dice.roll(edges.length)];
    }
}
