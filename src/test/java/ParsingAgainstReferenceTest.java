import java.util.List;

/** Promises 4 to 7, 11, 12 and 14 on made-up texts, against ModelParser. */
public final class ParsingAgainstReferenceTest {
    private static final Harness H = new Harness("ParsingAgainstReferenceTest");
    private static final ModelTree.Shape SHAPE = new ModelTree.Shape(
            new String[] {"S", "A", "B", "LONGNAME", "X1", "Y22", "Z333"}, 10, 40);
    private static final int[] SEEN = new int[9];

    public static void main(String[] args) {
        for (int seed = 1; seed <= 300; seed++) {
            object(new Dice(seed), seed);
        }
        for (int code = 0; code < SEEN.length; code++) {
            H.same("trees with fault " + code + " are among them", 1, SEEN[code] > 20 ? 1 : 0);
        }
        H.done();
    }

    private static void object(Dice dice, int seed) {
        TreeJoiner x = new TreeJoiner();
        ModelParser model = new ModelParser();
        for (int turn = 0; turn < 60; turn++) {
            String text = text(dice);
            int answer = model.tree(text);
            String where = "seed " + seed + " turn " + turn + " tree " + text;
            H.same(where, answer, Harness.tree(x, text));
            SEEN[model.fault]++;
            if (answer >= 0) {
                H.same(where + " nodes", model.nodeLines(answer),
                        Harness.nodes(x, answer, model.trees.get(answer).nodes.size()));
            }
            compare(where, x, model);
            flat(dice, x, model, where);
        }
        names(x, false, model.labels);
        names(x, true, model.words);
    }

    private static void flat(Dice dice, TreeJoiner x, ModelParser model, String where) {
        String words = MadeUpTexts.pieces(dice,
                new String[] {"a", "b", "word", " ", " ", "\t", "a ", "b "}, 20);
        words = dice.chance(30) ? MadeUpTexts.spoil(dice, words) : words;
        H.same(where + " sentence " + words, model.sentence(words), Harness.sentence(x, words));
        compare(where + " sentence " + words, x, model);
        String label = dice.pick("S", "A", " LONGNAME ", "Z333\n");
        label = dice.chance(50) ? MadeUpTexts.spoil(dice, label) : label;
        int place = model.label(label);
        int answer = Harness.read(x, label);
        H.same(where + " read " + label, place, Math.min(answer, 0));
        H.same(where + " fault of read " + label, model.fault, x.fault());
    }

    private static void compare(String where, TreeJoiner x, ModelParser model) {
        H.same(where + " fault", model.fault, x.fault());
        H.same(where + " trees", model.trees.size(), x.count(0));
        H.same(where + " labels", model.labels.size(), x.count(1));
        H.same(where + " words", model.words.size(), x.count(2));
        H.same(where + " spoken", model.spoken.size(), x.count(3));
    }

    private static void names(TreeJoiner x, boolean word, List<String> names) {
        for (int i = 0; i < names.size(); i++) {
            int number = i;
            String name = names.get(i);
            H.same("name " + i, name, Harness.name(x, word, i, name.length()));
            H.index("behind name " + i, () -> x.letter(word, number, name.length()));
        }
        H.index("behind the names", () -> x.letter(word, names.size(), 0));
    }

    private static String text(Dice dice) {
        if (dice.chance(5)) {
            return MadeUpTexts.pieces(dice, MadeUpTexts.PIECES, 12);
        }
        if (dice.chance(10)) {
            return MadeUpTexts.crowd(dice);
        }
        String text = ModelTree.random(dice, dice.chance(40), 2 + dice.roll(11), SHAPE).text(dice);
        int faults = dice.chance(40) ? 0 : 1 + dice.roll(2);
        for (int i = 0; i < faults; i++) {
            text = MadeUpTexts.spoil(dice, text);
        }
        return text;
    }
}
