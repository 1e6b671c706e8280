import java.util.Arrays;

/**
 * Reads sentences by small trees that take the place of leaves, or are set into the midst of
 * other trees: in how many ways, the k-th of these, and the whole tree that it makes.
 */
public final class TreeJoiner {
    public static final int NONE = -1;

    private static final int MOST_BYTES = 1000;
    private static final int FED_BYTES = 20;
    private static final int MOST_TREES = 16;
    private static final int MOST_NODES = 12;
    private static final int MOST_LABELS = 16;
    private static final int MOST_WORDS = 32;
    private static final int MOST_SPOKEN = 8;
    private static final int LABEL_BYTES = 8;
    private static final int WORD_BYTES = 12;
    private static final int MANY = 1000000000;

    // Every tree has a WORD of its own, so a way has no more uses than the sentence has words.
    private static final int MOST_USES = MOST_SPOKEN;

    private static final int NO_FAULT = 0;
    private static final int FAULT_TOKEN = 1;
    private static final int FAULT_STANDING = 2;
    private static final int FAULT_TOO_MANY = 3;
    private static final int FAULT_NOT_INNER = 4;
    private static final int FAULT_SECOND_FOOT = 5;
    private static final int FAULT_FOOT_LABEL = 6;
    private static final int FAULT_NO_WORD = 7;
    private static final int FAULT_TREES = 8;

    private final Tape tape;
    private final Forest forest;
    private final TreeParser treeParser;
    private final Sentence spoken;
    private final Chart chart;
    private final Way way;
    private final WholeTree wholeTree;
    private int faultCode;
    private int readLabel;
    private int ways;

    public TreeJoiner() {
        tape = new Tape();
        forest = new Forest();
        treeParser = new TreeParser(tape, forest);
        spoken = new Sentence(tape);
        chart = new Chart(forest);
        way = new Way(forest, chart);
        wholeTree = new WholeTree(forest, way);
        faultCode = NO_FAULT;
        readLabel = NONE;
        ways = NONE;
    }

    public int feed(int a, int b, int c, int d, int e) throws UnsupportedOperationException {
        if (tape.length + FED_BYTES > MOST_BYTES) {
            throw new UnsupportedOperationException("the tape has at most 1000 bytes");
        }
        tape.append(a);
        tape.append(b);
        tape.append(c);
        tape.append(d);
        tape.append(e);
        return tape.length;
    }

    public void end(int n) throws IllegalArgumentException {
        if (n < 0 || n > tape.length) {
            throw new IllegalArgumentException("the tape has not so many bytes");
        }
        tape.length = n;
    }

    public int tree() {
        treeParser.parse();
        tape.length = 0;
        faultCode = treeParser.code;
        if (faultCode != NO_FAULT) {
            return -1 - treeParser.place;
        }
        forgetReading();
        return forest.trees - 1;
    }

    public int sentence() {
        faultCode = spoken.parse();
        int place = tape.start;
        tape.length = 0;
        if (faultCode != NO_FAULT) {
            return -1 - place;
        }
        forgetReading();
        return spoken.words.size;
    }

    public int read() {
        forgetReading();
        faultCode = parseLabel();
        int place = tape.start;
        tape.length = 0;
        if (faultCode != NO_FAULT) {
            return -1 - place;
        }
        if (readLabel == NONE) {
            ways = 0;
        } else {
            chart.fill(spoken.words);
            ways = chart.initialWays(readLabel, 0, chart.length);
        }
        return ways;
    }

    public int fault() {
        return faultCode;
    }

    public int choose(int k) throws IllegalStateException, IndexOutOfBoundsException {
        if (ways == NONE) {
            throw new IllegalStateException("the sentence was not read");
        }
        if (k < 0 || k >= ways) {
            throw new IndexOutOfBoundsException("there are not so many ways");
        }
        way.unfold(readLabel, k);
        wholeTree.grow();
        return way.uses;
    }

    public int use(int u, int what) throws IndexOutOfBoundsException, IllegalArgumentException {
        if (u < 0 || u >= way.uses) {
            throw new IndexOutOfBoundsException("there is no such use");
        }
        if (what < 0 || what >= Way.USE_CELLS) {
            throw new IllegalArgumentException("of a use there are 0 to 6");
        }
        return way.useCell(u, what);
    }

    public int whole(int x, int what) throws IndexOutOfBoundsException, IllegalArgumentException {
        if (x < 0 || x >= wholeTree.size) {
            throw new IndexOutOfBoundsException("the whole tree has no such node");
        }
        if (what < 0 || what >= WholeTree.CELLS) {
            throw new IllegalArgumentException("of a node of the whole tree there are 0 to 5");
        }
        return wholeTree.cell(x, what);
    }

    public int node(int t, int x, int what)
            throws IndexOutOfBoundsException, IllegalArgumentException {
        if (t < 0 || t >= forest.trees || x < 0 || x >= forest.sizes[t]) {
            throw new IndexOutOfBoundsException("there is no such node");
        }
        if (what < 0 || what > Forest.MARK) {
            throw new IllegalArgumentException("of a node there are 0 to 4");
        }
        return forest.cell(Forest.row(t, x), what);
    }

    public int letter(boolean word, int number, int i) throws IndexOutOfBoundsException {
        Names names = word ? forest.words : forest.labels;
        if (number < 0 || number >= names.size || i < 0 || i >= names.lengths[number]) {
            throw new IndexOutOfBoundsException("there is no such byte");
        }
        return names.letters[names.begin(number) + i];
    }

    public int clear() {
        int trees = forest.trees;
        forest.trees = 0;
        forest.labels.size = 0;
        forest.words.size = 0;
        forgetReading();
        return trees;
    }

    public int count(int what) throws IllegalArgumentException {
        switch (what) {
            case 0:
                return forest.trees;
            case 1:
                return forest.labels.size;
            case 2:
                return forest.words.size;
            case 3:
                return spoken.words.size;
            case 4:
                return ways;
            case 5:
                return way.uses;
            case 6:
                return wholeTree.size;
            default:
                throw new IllegalArgumentException("there are counts 0 to 6");
        }
    }

    private void forgetReading() {
        ways = NONE;
        way.uses = 0;
        wholeTree.size = 0;
    }

    /** Sets readLabel to the number of the LABEL on the tape, NONE for one that no tree has. */
    private int parseLabel() {
        tape.rewind();
        tape.advance();
        if (tape.token != Tape.LABEL) {
            return tape.misplaced();
        }
        readLabel = forest.labels.find(tape.bytes, tape.start, tape.stop);
        tape.advance();
        return tape.token == Tape.END ? NO_FAULT : tape.misplaced();
    }

    /** The bytes that were fed, and the token among them that was reached. */
    private static final class Tape {
        static final int END = 0;
        static final int BAD = 1;
        static final int LABEL = 2;
        static final int WORD = 3;
        static final int SIGN = 4;

        final int[] bytes = new int[MOST_BYTES];
        int length;
        int token;
        int start;
        int stop;

        void append(int number) {
            for (int shift = 24; shift >= 0 && length < MOST_BYTES; shift -= 8) {
                bytes[length] = (number >>> shift) & 255;
                length++;
            }
        }

        void rewind() {
            stop = 0;
        }

        void advance() {
            skipBlanks();
            start = stop;
            if (start >= length) {
                token = END;
                return;
            }
            int first = bytes[start];
            stop++;
            if (isGreat(first)) {
                takeLabel();
            } else if (isSmall(first)) {
                takeWord();
            } else {
                token = isSign(first) ? SIGN : BAD;
            }
        }

        /** The code for the token that was reached, where it cannot stand. */
        int misplaced() {
            return token == BAD ? FAULT_TOKEN : FAULT_STANDING;
        }

        boolean isAt(char sign) {
            return token == SIGN && bytes[start] == sign;
        }

        private void skipBlanks() {
            while (stop < length && isBlank(bytes[stop])) {
                stop++;
            }
        }

        private void takeLabel() {
            while (stop < length && (isGreat(bytes[stop]) || isDigit(bytes[stop]))) {
                stop++;
            }
            token = stop - start > LABEL_BYTES ? BAD : LABEL;
        }

        private void takeWord() {
            while (stop < length && isSmall(bytes[stop])) {
                stop++;
            }
            token = stop - start > WORD_BYTES ? BAD : WORD;
        }

        private static boolean isBlank(int b) {
            return b == 9 || b == 10 || b == 13 || b == 32;
        }

        private static boolean isGreat(int b) {
            return b >= 'A' && b <= 'Z';
        }

        private static boolean isSmall(int b) {
            return b >= 'a' && b <= 'z';
        }

        private static boolean isDigit(int b) {
            return b >= '0' && b <= '9';
        }

        private static boolean isSign(int b) {
            return b == '(' || b == ')' || b == '!' || b == '*' || b == '+' || b == '-';
        }
    }

    /** A numbered list of LABELs or of WORDs. */
    private static final class Names {
        final int width;
        final int[] letters;
        final int[] lengths;
        int size;

        Names(int most, int width) {
            this.width = width;
            letters = new int[most * width];
            lengths = new int[most];
        }

        int begin(int number) {
            return number * width;
        }

        boolean isFull() {
            return size >= lengths.length;
        }

        void add(int[] bytes, int start, int stop) {
            if (isFull() || stop - start > width) {
                return;
            }
            System.arraycopy(bytes, start, letters, begin(size), stop - start);
            lengths[size] = stop - start;
            size++;
        }

        int find(int[] bytes, int start, int stop) {
            for (int number = 0; number < size; number++) {
                if (lengths[number] == stop - start && isSame(begin(number), bytes, start, stop)) {
                    return number;
                }
            }
            return NONE;
        }

        private boolean isSame(int begin, int[] bytes, int start, int stop) {
            for (int i = start; i < stop; i++) {
                if (bytes[i] != letters[begin + i - start]) {
                    return false;
                }
            }
            return true;
        }
    }

    /** The words of the sentence, which need not be WORDs of the trees. */
    private static final class Sentence {
        final Names words = new Names(MOST_SPOKEN, WORD_BYTES);
        private final Tape tape;

        Sentence(Tape tape) {
            this.tape = tape;
        }

        /** Answers the code of the fault, which is at the token that the tape is at. */
        int parse() {
            int code = findFault();
            if (code == NO_FAULT) {
                take();
            }
            return code;
        }

        // The old sentence stays where the new one has a fault: so this is a walk of its own.
        private int findFault() {
            tape.rewind();
            for (int found = 0; found <= MOST_SPOKEN; found++) {
                tape.advance();
                if (tape.token == Tape.END) {
                    return NO_FAULT;
                }
                if (tape.token != Tape.WORD) {
                    return tape.misplaced();
                }
            }
            return FAULT_TOO_MANY;
        }

        private void take() {
            words.size = 0;
            tape.rewind();
            for (int found = 0; found < MOST_SPOKEN; found++) {
                tape.advance();
                if (tape.token == Tape.WORD) {
                    words.add(tape.bytes, tape.start, tape.stop);
                }
            }
        }
    }

    /** The trees, a row of cells for each node. */
    private static final class Forest {
        static final int INNER = 0;
        static final int OPEN = 1;
        static final int FOOT = 2;
        static final int WORD = 3;

        static final int MUST = 1;
        static final int CANNOT = 2;

        // The first five cells of a row are what node() answers.
        static final int KIND = 0;
        static final int NAME = 1;
        static final int PARENT = 2;
        static final int PARTS = 3;
        static final int MARK = 4;
        // The row of the next part of the same node, NONE for the last one.
        static final int NEXT = 5;
        // Of this node: how many feet are in it, how many words it covers at the least, and how
        // many WORDs are in it.
        static final int FEET = 6;
        static final int LEAST = 7;
        static final int WORDS = 8;
        // The same three of this node together with the later parts of the same node.
        static final int ONWARD = 3;
        static final int CELLS = 12;

        // FEET, LEAST and WORDS of a node without parts, by its kind.
        private static final int[] OF_LEAF = {0, 0, 0, 0, 1, 0, 1, 0, 0, 0, 1, 1};

        final Names labels = new Names(MOST_LABELS, LABEL_BYTES);
        final Names words = new Names(MOST_WORDS, WORD_BYTES);
        // One tree more than may be kept: a text is looked through even when there are 16 trees.
        final int[] sizes = new int[MOST_TREES + 1];
        final int[] cells = new int[(MOST_TREES + 1) * MOST_NODES * CELLS];
        int trees;

        static int row(int tree, int node) {
            return tree * MOST_NODES + node;
        }

        int cell(int row, int what) {
            return cells[row * CELLS + what];
        }

        void set(int row, int what, int value) {
            cells[row * CELLS + what] = value;
        }

        boolean hasFoot(int row) {
            return cells[row * CELLS + FEET] == 1;
        }

        boolean hasWord(int row, int onwards) {
            return cell(row, WORDS + onwards) > 0;
        }

        boolean isAuxiliary(int tree) {
            return hasFoot(row(tree, 0));
        }

        int rootLabel(int tree) {
            return cell(row(tree, 0), NAME);
        }

        void addRow(int tree, int kind, int name, int parent) {
            int row = row(tree, sizes[tree]);
            sizes[tree]++;
            set(row, KIND, kind);
            set(row, NAME, name);
            set(row, PARENT, parent);
            set(row, PARTS, 0);
            set(row, MARK, 0);
            if (parent != NONE) {
                int above = row(tree, parent);
                set(above, PARTS, cell(above, PARTS) + 1);
            }
        }

        /** Links the parts of each node, and sums up what is in it. */
        void link(int tree) {
            for (int node = sizes[tree] - 1; node >= 0; node--) {
                int row = row(tree, node);
                int kind = cell(row, KIND);
                int next = nextPart(tree, node);
                set(row, NEXT, next);
                for (int what = FEET; what <= WORDS; what++) {
                    int here = kind == INNER ? cell(row + 1, what + ONWARD)
                            : OF_LEAF[kind * ONWARD + what - FEET];
                    int later = next == NONE ? 0 : cell(next, what + ONWARD);
                    set(row, what, here);
                    set(row, what + ONWARD, here + later);
                }
            }
        }

        private int nextPart(int tree, int node) {
            int parent = cell(row(tree, node), PARENT);
            for (int other = node + 1; other < sizes[tree]; other++) {
                if (cell(row(tree, other), PARENT) == parent) {
                    return row(tree, other);
                }
            }
            return NONE;
        }
    }

    /** Makes the tape a tree more of the forest, or finds its fault. */
    private static final class TreeParser {
        private static final int BEFORE_NODE = 0;
        private static final int BEHIND_LABEL = 1;
        private static final int BEHIND_MARK = 2;
        private static final int BEHIND_PART = 3;
        private static final int BEHIND_TREE = 4;

        int code;
        int place;
        private final Tape tape;
        private final Forest forest;
        private int state;
        private int parent;
        private int label;
        private int labelPlace;
        private int mark;
        private int feet;
        private int footPlace;
        private int footLabel;
        private boolean hasWord;

        TreeParser(Tape tape, Forest forest) {
            this.tape = tape;
            this.forest = forest;
        }

        void parse() {
            int labels = forest.labels.size;
            int words = forest.words.size;
            begin();
            takeTokens();
            if (code == NO_FAULT) {
                judge();
            }
            if (code != NO_FAULT) {
                forest.labels.size = labels;
                forest.words.size = words;
                return;
            }
            forest.link(forest.trees);
            forest.trees++;
        }

        private void begin() {
            code = NO_FAULT;
            place = 0;
            state = BEFORE_NODE;
            parent = NONE;
            feet = 0;
            hasWord = false;
            forest.sizes[forest.trees] = 0;
            tape.rewind();
        }

        private void takeTokens() {
            for (int taken = 0; taken <= MOST_BYTES && code == NO_FAULT; taken++) {
                tape.advance();
                if (tape.token == Tape.END && state == BEHIND_TREE) {
                    return;
                }
                code = tape.token == Tape.BAD ? FAULT_TOKEN : takeToken();
                place = tape.start;
            }
        }

        private int takeToken() {
            switch (state) {
                case BEFORE_NODE:
                    return takeNode();
                case BEHIND_LABEL:
                    return takeKind();
                case BEHIND_MARK:
                    return tape.isAt('(') ? openParts() : FAULT_STANDING;
                case BEHIND_PART:
                    return tape.isAt(')') ? closeParts() : takeNode();
                default:
                    return FAULT_STANDING;
            }
        }

        private int takeNode() {
            if (tape.token != Tape.LABEL && tape.token != Tape.WORD) {
                return FAULT_STANDING;
            }
            if (forest.sizes[forest.trees] >= MOST_NODES) {
                return FAULT_TOO_MANY;
            }
            boolean word = tape.token == Tape.WORD;
            int name = takeName(word ? forest.words : forest.labels);
            if (name == NONE) {
                return FAULT_TOO_MANY;
            }
            if (word) {
                hasWord = true;
                addLeaf(Forest.WORD, name);
            } else {
                label = name;
                labelPlace = tape.start;
                mark = 0;
                state = BEHIND_LABEL;
            }
            return NO_FAULT;
        }

        /** Answers NONE for a new name that would be one too many. */
        private int takeName(Names names) {
            int number = names.find(tape.bytes, tape.start, tape.stop);
            if (number != NONE || names.isFull()) {
                return number;
            }
            names.add(tape.bytes, tape.start, tape.stop);
            return names.size - 1;
        }

        private int takeKind() {
            if (tape.isAt('(')) {
                return openParts();
            }
            if (tape.isAt('!')) {
                addLeaf(Forest.OPEN, label);
            } else if (tape.isAt('*')) {
                noteFoot();
                addLeaf(Forest.FOOT, label);
            } else if (tape.isAt('+')) {
                mark = Forest.MUST;
                state = BEHIND_MARK;
            } else if (tape.isAt('-')) {
                mark = Forest.CANNOT;
                state = BEHIND_MARK;
            } else {
                return FAULT_STANDING;
            }
            return NO_FAULT;
        }

        private void noteFoot() {
            feet++;
            if (feet <= 2) {
                footPlace = labelPlace;
                footLabel = label;
            }
        }

        private void addLeaf(int kind, int name) {
            forest.addRow(forest.trees, kind, name, parent);
            state = parent == NONE ? BEHIND_TREE : BEHIND_PART;
        }

        private int openParts() {
            forest.addRow(forest.trees, Forest.INNER, label, parent);
            parent = forest.sizes[forest.trees] - 1;
            forest.set(Forest.row(forest.trees, parent), Forest.MARK, mark);
            state = BEFORE_NODE;
            return NO_FAULT;
        }

        private int closeParts() {
            parent = forest.cell(Forest.row(forest.trees, parent), Forest.PARENT);
            state = parent == NONE ? BEHIND_TREE : BEHIND_PART;
            return NO_FAULT;
        }

        private void judge() {
            int root = Forest.row(forest.trees, 0);
            if (forest.cell(root, Forest.KIND) != Forest.INNER) {
                refuse(FAULT_NOT_INNER, 0);
            } else if (feet > 1) {
                refuse(FAULT_SECOND_FOOT, footPlace);
            } else if (feet == 1 && footLabel != forest.cell(root, Forest.NAME)) {
                refuse(FAULT_FOOT_LABEL, footPlace);
            } else if (!hasWord) {
                refuse(FAULT_NO_WORD, 0);
            } else if (forest.trees >= MOST_TREES) {
                refuse(FAULT_TREES, 0);
            }
        }

        private void refuse(int why, int where) {
            code = why;
            place = where;
        }
    }

    /**
     * The numbers of ways in which nodes lie over places. A gap of NONE to NONE is no gap; a node
     * with the foot in it is only asked with a gap, another one only without. A gap without words
     * is never asked for: what would lie there has a word, or the foot over such a gap again.
     */
    private static final class Chart {
        private static final int PAIRS = 45;
        private static final int QUADS = 330;
        // Binomial coefficients, which number the places from <= to, and from <= gapFrom < gapTo
        // <= to, of 0 to 8.
        private static final int[] SECOND = {0, 1, 3, 6, 10, 15, 21, 28, 36};
        private static final int[] THIRD = {0, 0, 1, 4, 10, 20, 35, 56, 84};
        private static final int[] FOURTH = {0, 0, 1, 5, 15, 35, 70, 126, 210};

        int length;
        private final Forest forest;
        private final int[] said = new int[MOST_SPOKEN];
        // Of each node, and of each node together with the later parts of the same node.
        private final int[] single = new int[MOST_TREES * MOST_NODES * QUADS];
        private final int[] onward = new int[MOST_TREES * MOST_NODES * QUADS];
        // Of all initial, and of all auxiliary trees with a label together.
        private final int[] initial = new int[MOST_LABELS * PAIRS];
        private final int[] auxiliary = new int[MOST_LABELS * QUADS];
        private final int[] auxiliaryTrees = new int[MOST_LABELS];

        Chart(Forest forest) {
            this.forest = forest;
        }

        static int cut(long number) {
            return number > MANY ? MANY : (int) number;
        }

        int initialWays(int label, int from, int to) {
            return initial[label * PAIRS + at(from, to, NONE, NONE)];
        }

        int nodeWays(int row, int from, int to, int gapFrom, int gapTo) {
            return single[row * QUADS + at(from, to, gapFrom, gapTo)];
        }

        /** Of the parts of an inner node: the first one's row is behind the node's own. */
        int partsWays(int row, int from, int to, int gapFrom, int gapTo) {
            return onward[(row + 1) * QUADS + at(from, to, gapFrom, gapTo)];
        }

        /** Of a part that has later ones, up to where these begin. */
        int headWays(int row, int from, int to, int gapFrom, int gapTo) {
            boolean gap = forest.hasFoot(row);
            return single[row * QUADS + at(from, to, gap ? gapFrom : NONE, gap ? gapTo : NONE)];
        }

        /** Of the later parts, from where the part before them ends. */
        int tailWays(int row, int from, int to, int gapFrom, int gapTo) {
            boolean gap = !forest.hasFoot(row);
            int next = forest.cell(row, Forest.NEXT);
            return onward[next * QUADS + at(from, to, gap ? gapFrom : NONE, gap ? gapTo : NONE)];
        }

        /** Where a part that has later ones ends at the earliest. */
        int firstSplit(int row, int from, int gapTo) {
            return forest.hasFoot(row) ? gapTo : from + forest.cell(row, Forest.LEAST);
        }

        /** Where it ends at the latest. */
        int lastSplit(int row, int to, int gapFrom) {
            int next = forest.cell(row, Forest.NEXT);
            return forest.hasFoot(row) || gapFrom == NONE
                    ? to - forest.cell(next, Forest.LEAST + Forest.ONWARD) : gapFrom;
        }

        /** How many places the parts of a node with this gap lie over at the least. */
        int narrowest(int row, int gapFrom, int gapTo) {
            return forest.cell(row, Forest.LEAST) + gapTo - gapFrom;
        }

        /** Where the parts of a node begin at the latest. */
        int lastBegin(int to, int gapFrom, int narrowest) {
            return gapFrom == NONE ? to - narrowest : gapFrom;
        }

        /**
         * A node with a WORD in it, such as node 0 of any tree, covers that word by itself: so it
         * needs only trees that cover fewer words than it does. Other nodes may need trees that
         * cover just as many, and are laid when these are there.
         */
        void fill(Names words) {
            hear(words);
            Arrays.fill(initial, 0);
            Arrays.fill(auxiliary, 0);
            Arrays.fill(auxiliaryTrees, 0);
            for (int tree = 0; tree < forest.trees; tree++) {
                if (forest.isAuxiliary(tree)) {
                    auxiliaryTrees[forest.rootLabel(tree)]++;
                }
            }
            for (int covered = 0; covered <= length; covered++) {
                layAll(covered, true);
                for (int tree = 0; tree < forest.trees; tree++) {
                    addTree(tree, covered);
                }
                layAll(covered, false);
            }
        }

        private void hear(Names words) {
            length = words.size;
            for (int i = 0; i < length; i++) {
                int begin = words.begin(i);
                said[i] = forest.words.find(words.letters, begin, begin + words.lengths[i]);
            }
        }

        // Parts have greater numbers than their node: so downwards they are there before it.
        private void layAll(int covered, boolean word) {
            for (int tree = 0; tree < forest.trees; tree++) {
                for (int node = forest.sizes[tree] - 1; node >= 0; node--) {
                    int row = Forest.row(tree, node);
                    if (forest.hasWord(row, 0) == word) {
                        lay(row, covered, 0);
                    }
                    if (forest.hasWord(row, Forest.ONWARD) == word) {
                        lay(row, covered, Forest.ONWARD);
                    }
                }
            }
        }

        /** Lays the node alone, or with its later parts where onwards is ONWARD. */
        private void lay(int row, int covered, int onwards) {
            int[] ways = onwards == 0 ? single : onward;
            boolean possible = covered >= forest.cell(row, Forest.LEAST + onwards);
            int gap = forest.cell(row, Forest.FEET + onwards);
            for (int from = 0; from + covered <= length; from++) {
                int lastTo = gap == 0 ? from + covered : length;
                for (int to = from + covered + gap; to <= lastTo; to++) {
                    int lastHole = gap == 0 ? from : from + covered;
                    for (int hole = from; hole <= lastHole; hole++) {
                        int gapFrom = gap == 0 ? NONE : hole;
                        int gapTo = gap == 0 ? NONE : hole + to - from - covered;
                        ways[row * QUADS + at(from, to, gapFrom, gapTo)] = !possible ? 0
                                : onwards == 0 ? reckonNode(row, from, to, gapFrom, gapTo)
                                : reckonOnward(row, from, to, gapFrom, gapTo);
                    }
                }
            }
        }

        private int reckonNode(int row, int from, int to, int gapFrom, int gapTo) {
            int name = forest.cell(row, Forest.NAME);
            switch (forest.cell(row, Forest.KIND)) {
                case Forest.WORD:
                    return to == from + 1 && said[from] == name ? 1 : 0;
                case Forest.FOOT:
                    return from == gapFrom && to == gapTo ? 1 : 0;
                case Forest.OPEN:
                    return initialWays(name, from, to);
                default:
                    return reckonInner(row, from, to, gapFrom, gapTo);
            }
        }

        private int reckonInner(int row, int from, int to, int gapFrom, int gapTo) {
            int mark = forest.cell(row, Forest.MARK);
            int label = forest.cell(row, Forest.NAME);
            int ways = mark == Forest.MUST ? 0 : partsWays(row, from, to, gapFrom, gapTo);
            if (mark == Forest.CANNOT || auxiliaryTrees[label] == 0) {
                return ways;
            }
            int narrowest = narrowest(row, gapFrom, gapTo);
            int lastP = lastBegin(to, gapFrom, narrowest);
            for (int p = from; p <= lastP; p++) {
                for (int q = Math.max(p + narrowest, gapTo); q <= to; q++) {
                    long above = auxiliary[label * QUADS + at(from, to, p, q)];
                    if (above != 0) {
                        ways = cut(ways + above * partsWays(row, p, q, gapFrom, gapTo));
                    }
                }
            }
            return ways;
        }

        private int reckonOnward(int row, int from, int to, int gapFrom, int gapTo) {
            if (forest.cell(row, Forest.NEXT) == NONE) {
                return nodeWays(row, from, to, gapFrom, gapTo);
            }
            int ways = 0;
            int last = lastSplit(row, to, gapFrom);
            for (int e = firstSplit(row, from, gapTo); e <= last; e++) {
                long head = headWays(row, from, e, gapFrom, gapTo);
                if (head != 0) {
                    ways = cut(ways + head * tailWays(row, e, to, gapFrom, gapTo));
                }
            }
            return ways;
        }

        private void addTree(int tree, int covered) {
            int root = Forest.row(tree, 0);
            int label = forest.rootLabel(tree);
            for (int from = 0; from + covered <= length; from++) {
                if (forest.isAuxiliary(tree)) {
                    addAuxiliary(root, label, from, covered);
                } else {
                    int pair = at(from, from + covered, NONE, NONE);
                    int sum = label * PAIRS + pair;
                    initial[sum] = cut((long) initial[sum] + single[root * QUADS + pair]);
                }
            }
        }

        private void addAuxiliary(int root, int label, int from, int covered) {
            for (int to = from + covered + 1; to <= length; to++) {
                for (int hole = from; hole <= from + covered; hole++) {
                    int quad = at(from, to, hole, hole + to - from - covered);
                    int sum = label * QUADS + quad;
                    auxiliary[sum] = cut((long) auxiliary[sum] + single[root * QUADS + quad]);
                }
            }
        }

        private static int at(int from, int to, int gapFrom, int gapTo) {
            if (gapFrom == NONE) {
                return from + SECOND[to];
            }
            return from + SECOND[gapFrom] + THIRD[gapTo] + FOURTH[to];
        }
    }

    /** The way that was chosen: its uses, and where the nodes of these lie. */
    private static final class Way {
        // The cells of a use are what use() answers.
        static final int TREE = 0;
        static final int OF = 1;
        static final int AT = 2;
        static final int FROM = 3;
        static final int TO = 4;
        static final int GAP_FROM = 5;
        static final int GAP_TO = 6;
        static final int USE_CELLS = 7;

        // A node of a use has the last four cells too; with a tree set in, they tell where its
        // parts lie. Before them: which of the ways is meant, and the use that is at the node.
        static final int RANK = 1;
        static final int CHILD = 2;

        int uses;
        private final Forest forest;
        private final Chart chart;
        private final int[] useCells = new int[MOST_USES * USE_CELLS];
        private final int[] nodeCells = new int[MOST_USES * MOST_NODES * USE_CELLS];

        Way(Forest forest, Chart chart) {
            this.forest = forest;
            this.chart = chart;
        }

        int useCell(int use, int what) {
            return useCells[use * USE_CELLS + what];
        }

        int nodeCell(int use, int node, int what) {
            return nodeCells[(use * MOST_NODES + node) * USE_CELLS + what];
        }

        void unfold(int label, int rank) {
            uses = 0;
            int first = startInitial(label, NONE, NONE, 0, chart.length, rank);
            if (first != NONE) {
                unfoldUse(first);
            }
        }

        // It goes no deeper than there are uses, and beyond the most of these none is started.
        private void unfoldUse(int use) {
            int tree = useCell(use, TREE);
            for (int what = FROM; what <= GAP_TO; what++) {
                useCells[use * USE_CELLS + what] = nodeCell(use, 0, what);
            }
            for (int node = 0; node < forest.sizes[tree]; node++) {
                int row = Forest.row(tree, node);
                int kind = forest.cell(row, Forest.KIND);
                int child = NONE;
                if (kind == Forest.OPEN) {
                    child = startInitial(forest.cell(row, Forest.NAME), use, node,
                            nodeCell(use, node, FROM), nodeCell(use, node, TO),
                            nodeCell(use, node, RANK));
                } else if (kind == Forest.INNER) {
                    child = startAuxiliary(use, node, row);
                    layParts(use, node, row);
                }
                setNodeCell(use, node, CHILD, child);
                if (child != NONE) {
                    unfoldUse(child);
                }
            }
        }

        private int startInitial(int label, int of, int at, int from, int to, int rank) {
            int left = rank;
            for (int tree = 0; tree < forest.trees && uses < MOST_USES; tree++) {
                if (forest.rootLabel(tree) != label || forest.isAuxiliary(tree)) {
                    continue;
                }
                int ways = chart.nodeWays(Forest.row(tree, 0), from, to, NONE, NONE);
                if (left < ways) {
                    int use = addUse(tree, of, at);
                    lay(use, 0, from, to, NONE, NONE, left);
                    return use;
                }
                left -= ways;
            }
            return NONE;
        }

        private int startAuxiliary(int use, int node, int row) {
            int rank = nodeCell(use, node, RANK);
            boolean bare = forest.cell(row, Forest.MARK) != Forest.MUST;
            int own = bare ? chart.partsWays(row, nodeCell(use, node, FROM),
                    nodeCell(use, node, TO), nodeCell(use, node, GAP_FROM),
                    nodeCell(use, node, GAP_TO)) : 0;
            if (rank < own) {
                return NONE;
            }
            setNodeCell(use, node, RANK, rank - own);
            int child = NONE;
            for (int tree = 0; tree < forest.trees && child == NONE; tree++) {
                if (forest.rootLabel(tree) == forest.cell(row, Forest.NAME)
                        && forest.isAuxiliary(tree) && uses < MOST_USES) {
                    child = tryAuxiliary(use, node, row, tree);
                }
            }
            return child;
        }

        /** Sets the tree into the node, or takes its ways off the node's rank. */
        private int tryAuxiliary(int use, int node, int row, int tree) {
            int from = nodeCell(use, node, FROM);
            int to = nodeCell(use, node, TO);
            int gapFrom = nodeCell(use, node, GAP_FROM);
            int gapTo = nodeCell(use, node, GAP_TO);
            int left = nodeCell(use, node, RANK);
            int narrowest = chart.narrowest(row, gapFrom, gapTo);
            int lastP = chart.lastBegin(to, gapFrom, narrowest);
            for (int p = from; p <= lastP; p++) {
                for (int q = Math.max(p + narrowest, gapTo); q <= to; q++) {
                    long above = chart.nodeWays(Forest.row(tree, 0), from, to, p, q);
                    int below = chart.partsWays(row, p, q, gapFrom, gapTo);
                    int ways = Chart.cut(above * below);
                    if (below > 0 && left < ways) {
                        int child = addUse(tree, use, node);
                        lay(child, 0, from, to, p, q, left / below);
                        lay(use, node, p, q, gapFrom, gapTo, left % below);
                        return child;
                    }
                    left -= ways;
                }
            }
            setNodeCell(use, node, RANK, left);
            return NONE;
        }

        private void layParts(int use, int node, int row) {
            int part = node + 1;
            lay(use, part, nodeCell(use, node, FROM), nodeCell(use, node, TO),
                    nodeCell(use, node, GAP_FROM), nodeCell(use, node, GAP_TO),
                    nodeCell(use, node, RANK));
            for (int laid = 1; laid < forest.cell(row, Forest.PARTS); laid++) {
                part = splitOff(use, part, row - node + part);
            }
        }

        /** The part was laid with all later ones: these are laid by themselves, and it alone. */
        private int splitOff(int use, int part, int row) {
            int from = nodeCell(use, part, FROM);
            int to = nodeCell(use, part, TO);
            int gapFrom = nodeCell(use, part, GAP_FROM);
            int gapTo = nodeCell(use, part, GAP_TO);
            int left = nodeCell(use, part, RANK);
            int next = forest.cell(row, Forest.NEXT) - row + part;
            boolean here = forest.hasFoot(row);
            int last = chart.lastSplit(row, to, gapFrom);
            for (int e = chart.firstSplit(row, from, gapTo); e <= last; e++) {
                long head = chart.headWays(row, from, e, gapFrom, gapTo);
                int tail = chart.tailWays(row, e, to, gapFrom, gapTo);
                int ways = Chart.cut(head * tail);
                if (tail > 0 && left < ways) {
                    lay(use, part, from, e, here ? gapFrom : NONE, here ? gapTo : NONE,
                            left / tail);
                    lay(use, next, e, to, here ? NONE : gapFrom, here ? NONE : gapTo,
                            left % tail);
                    break;
                }
                left -= ways;
            }
            return next;
        }

        private int addUse(int tree, int of, int at) {
            int use = uses;
            uses++;
            useCells[use * USE_CELLS + TREE] = tree;
            useCells[use * USE_CELLS + OF] = of;
            useCells[use * USE_CELLS + AT] = at;
            return use;
        }

        private void lay(int use, int node, int from, int to, int gapFrom, int gapTo, int rank) {
            setNodeCell(use, node, FROM, from);
            setNodeCell(use, node, TO, to);
            setNodeCell(use, node, GAP_FROM, gapFrom);
            setNodeCell(use, node, GAP_TO, gapTo);
            setNodeCell(use, node, RANK, rank);
        }

        private void setNodeCell(int use, int node, int what, int value) {
            nodeCells[(use * MOST_NODES + node) * USE_CELLS + what] = value;
        }
    }

    /** The whole tree that the chosen way makes. */
    private static final class WholeTree {
        // The cells of a node are what whole() answers.
        static final int USE = 0;
        static final int NUMBER = 1;
        static final int PARENT = 2;
        static final int FROM = 3;
        static final int TO = 4;
        static final int PARTS = 5;
        static final int CELLS = 6;
        private static final int MOST = MOST_USES * MOST_NODES;

        int size;
        private final Forest forest;
        private final Way way;
        private final int[] cells = new int[MOST * CELLS];
        // The nodes that are still to come, the next one last: use, number and parent.
        private final int[] waiting = new int[MOST * 3];
        private int waitingSize;

        WholeTree(Forest forest, Way way) {
            this.forest = forest;
            this.way = way;
        }

        int cell(int x, int what) {
            return cells[x * CELLS + what];
        }

        void grow() {
            size = 0;
            waitingSize = 0;
            push(0, 0, NONE);
            for (int added = 0; added < MOST && waitingSize > 0; added++) {
                waitingSize--;
                addInstead(waiting[waitingSize * 3], waiting[waitingSize * 3 + 1],
                        waiting[waitingSize * 3 + 2]);
            }
        }

        private void push(int use, int node, int parent) {
            if (waitingSize < MOST) {
                waiting[waitingSize * 3] = use;
                waiting[waitingSize * 3 + 1] = node;
                waiting[waitingSize * 3 + 2] = parent;
                waitingSize++;
            }
        }

        /** Adds what stands in the whole tree where the use has this node. */
        private void addInstead(int use, int node, int parent) {
            int tree = way.useCell(use, Way.TREE);
            if (forest.cell(Forest.row(tree, node), Forest.KIND) == Forest.FOOT) {
                // The node into which this tree was set: that very node, so no further tree.
                add(way.useCell(use, Way.OF), way.useCell(use, Way.AT), parent);
                return;
            }
            int seenUse = use;
            int seenNode = node;
            for (int hops = 0; hops < MOST_USES; hops++) {
                int child = way.nodeCell(seenUse, seenNode, Way.CHILD);
                if (child == NONE) {
                    break;
                }
                seenUse = child;
                seenNode = 0;
            }
            add(seenUse, seenNode, parent);
        }

        private void add(int use, int node, int parent) {
            int tree = way.useCell(use, Way.TREE);
            int x = size * CELLS;
            cells[x + USE] = use;
            cells[x + NUMBER] = node;
            cells[x + PARENT] = parent;
            cells[x + FROM] = way.nodeCell(use, node, Way.FROM);
            cells[x + TO] = way.nodeCell(use, node, Way.TO);
            cells[x + PARTS] = forest.cell(Forest.row(tree, node), Forest.PARTS);
            for (int part = forest.sizes[tree] - 1; part > node; part--) {
                if (forest.cell(Forest.row(tree, part), Forest.PARENT) == node) {
                    push(use, part, size);
                }
            }
            size++;
        }
    }
}
