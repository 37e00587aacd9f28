import java.util.Arrays;

/**
 * A solver for equations and disequations between bit vectors, by coarsest slicing.
 *
 * Every bit of a variable is a node (16 times the variable plus the bit). Pieces of equations
 * join whole slices, so joining node by node yields the classes of slices too; and because the
 * smallest node stands for its class, it is also the representative's bit, and the order of the
 * standing nodes is the order of free bits.
 *
 * All rows are made in the constructor; no call makes an object.
 */
public final class SliceSolver {
    public static final int INVALID_ARGUMENT = -1;
    public static final int ILLEGAL_STATE = -2;
    public static final int CAPACITY_EXCEEDED = -3;
    public static final int NONE = -9;

    private static final int LOAD_ERROR = -10;
    private static final int TEXT_LIMIT = 200;
    private static final int LAST_CHARACTER = 255;
    private static final int VARIABLES = 8;
    private static final int MAX_WIDTH = 16;
    private static final int NODES = VARIABLES * MAX_WIDTH;
    /** The constant bits 0 and 1 are the two nodes from here on. */
    private static final int CONSTANT = NODES;
    private static final int MAX_EQUATIONS = 10;
    private static final int MAX_DISEQUATIONS = 3;
    private static final int LEFT = 0;
    private static final int RIGHT = 1;
    private static final int SIDES = 2;
    private static final int MAX_SAVED = 6;
    private static final int SLOTS = 2;
    private static final int FREE = -1;

    private final Text text = new Text();
    private final Reader reader = new Reader(text);
    private final Problem problem = new Problem();
    private final Problem draft = new Problem();
    private final History history = new History();
    private final Problem firstSnapshot = new Problem();
    private final Problem secondSnapshot = new Problem();
    private int filledSlots;
    private final Cuts cuts = new Cuts();
    private final Classes classes = new Classes();
    /** Takes the equations of a question, so that the classes of the state stay as they are. */
    private final Classes trial = new Classes();
    private final Model model = new Model();
    /** The search for a model is the dearest step: it waits until somebody asks for the model. */
    private boolean modelIsCurrent;

    public SliceSolver() {
        filledSlots = 0;
        modelIsCurrent = false;
    }

    public int append(int character) {
        if (character < 0 || character > LAST_CHARACTER) {
            return INVALID_ARGUMENT;
        }
        if (text.isFull()) {
            return CAPACITY_EXCEEDED;
        }
        text.add((char) character);
        return text.length();
    }

    public int clearText() {
        int previous = text.length();
        text.clear();
        return previous;
    }

    public int load() {
        int error = reader.read(draft);
        if (error != NONE) {
            return LOAD_ERROR - error;
        }
        history.push(problem);
        problem.copyFrom(draft);
        text.clear();
        slice();
        return problem.statementCount();
    }

    public int removeEquation(int equation) {
        if (!problem.equations.has(equation)) {
            return INVALID_ARGUMENT;
        }
        history.push(problem);
        problem.equations.drop(equation);
        slice();
        return problem.equations.count();
    }

    public int removeDisequation(int disequation) {
        if (!problem.disequations.has(disequation)) {
            return INVALID_ARGUMENT;
        }
        history.push(problem);
        problem.disequations.drop(disequation);
        slice();
        return problem.disequations.count();
    }

    public int width(int variable) {
        return isVariable(variable) ? problem.widthOf(variable) : INVALID_ARGUMENT;
    }

    public int equationCount() {
        return problem.equations.count();
    }

    public int disequationCount() {
        return problem.disequations.count();
    }

    public int sliceCount(int variable) {
        return isVariable(variable) ? slicesOf(variable) : INVALID_ARGUMENT;
    }

    public int sliceStart(int variable, int slice) {
        return isSlice(variable, slice) ? cuts.startOf(variable, slice) : INVALID_ARGUMENT;
    }

    public int sliceWidth(int variable, int slice) {
        if (!isSlice(variable, slice)) {
            return INVALID_ARGUMENT;
        }
        boolean isLast = slice + 1 == slicesOf(variable);
        int end = isLast ? problem.widthOf(variable) : cuts.startOf(variable, slice + 1);
        return end - cuts.startOf(variable, slice);
    }

    public int representative(int variable, int slice) {
        if (!isSlice(variable, slice)) {
            return INVALID_ARGUMENT;
        }
        int root = classes.rootOf(nodeOf(variable, cuts.startOf(variable, slice)));
        int rootVariable = variableOf(root);
        return 16 * rootVariable + cuts.sliceAt(rootVariable, bitOf(root));
    }

    public int classCount() {
        int count = 0;
        for (int variable = 0; variable < VARIABLES; variable++) {
            int slices = slicesOf(variable);
            for (int slice = 0; slice < slices; slice++) {
                int node = nodeOf(variable, cuts.startOf(variable, slice));
                if (classes.rootOf(node) == node) {
                    count++;
                }
            }
        }
        return count;
    }

    public int isConsistent() {
        return classes.agree() ? 1 : 0;
    }

    public int firstConflict() {
        if (classes.agree()) {
            return NONE;
        }
        trial.clear();
        for (int equation = 0; equation < problem.equations.count(); equation++) {
            trial.equate(problem.equations, equation);
            if (!trial.agree()) {
                return equation;
            }
        }
        return NONE;
    }

    public int conflictSet() {
        if (classes.agree()) {
            return NONE;
        }
        int kept = (1 << problem.equations.count()) - 1;
        for (int equation = 0; equation < problem.equations.count(); equation++) {
            int rest = kept & ~(1 << equation);
            tryEquations(rest);
            if (!trial.agree()) {
                kept = rest;
            }
        }
        return kept;
    }

    public int fixedBit(int variable, int bit) {
        if (!isBit(variable, bit)) {
            return INVALID_ARGUMENT;
        }
        if (!classes.agree()) {
            return ILLEGAL_STATE;
        }
        int fixed = classes.constantOf(nodeOf(variable, bit));
        return fixed == FREE ? NONE : fixed;
    }

    public int compareBits(int variable, int bit, int otherVariable, int otherBit) {
        if (!isBit(variable, bit) || !isBit(otherVariable, otherBit)) {
            return INVALID_ARGUMENT;
        }
        if (!classes.agree()) {
            return ILLEGAL_STATE;
        }
        int node = nodeOf(variable, bit);
        int otherNode = nodeOf(otherVariable, otherBit);
        if (classes.rootOf(node) == classes.rootOf(otherNode)) {
            return 1;
        }
        int fixed = classes.constantOf(node);
        int otherFixed = classes.constantOf(otherNode);
        if (fixed == FREE || otherFixed == FREE) {
            return 2;
        }
        return fixed == otherFixed ? 1 : 0;
    }

    public int freeBits() {
        if (!classes.agree()) {
            return ILLEGAL_STATE;
        }
        int count = 0;
        for (int node = 0; node < NODES; node++) {
            boolean isDeclared = bitOf(node) < problem.widthOf(variableOf(node));
            if (isDeclared && classes.rootOf(node) == node && classes.constantOf(node) == FREE) {
                count++;
            }
        }
        return count;
    }

    public int isSatisfiable() {
        return chosenModel().oneCount() == NONE ? 0 : 1;
    }

    public int oneBits() {
        return chosenModel().oneCount();
    }

    public int value(int variable) {
        if (!isVariable(variable)) {
            return INVALID_ARGUMENT;
        }
        if (chosenModel().oneCount() == NONE) {
            return NONE;
        }
        int number = 0;
        for (int bit = 0; bit < problem.widthOf(variable); bit++) {
            int node = nodeOf(variable, bit);
            int fixed = classes.constantOf(node);
            boolean isOne = fixed == FREE ? model.hasOne(classes.rootOf(node)) : fixed == 1;
            if (isOne) {
                number |= 1 << bit;
            }
        }
        return number;
    }

    public int isImplied(int disequation) {
        if (!problem.disequations.has(disequation)) {
            return INVALID_ARGUMENT;
        }
        if (!classes.agree()) {
            return ILLEGAL_STATE;
        }
        tryEquations((1 << problem.equations.count()) - 1);
        trial.equate(problem.disequations, disequation);
        return trial.agree() ? 0 : 1;
    }

    public int undo() {
        if (history.depth() == 0) {
            return ILLEGAL_STATE;
        }
        history.popInto(problem);
        slice();
        return history.depth();
    }

    public int undoDepth() {
        return history.depth();
    }

    public int save(int slot) {
        if (!isSlot(slot)) {
            return INVALID_ARGUMENT;
        }
        snapshot(slot).copyFrom(problem);
        filledSlots |= 1 << slot;
        return problem.statementCount();
    }

    public int restore(int slot) {
        if (!isSlot(slot)) {
            return INVALID_ARGUMENT;
        }
        if ((filledSlots & 1 << slot) == 0) {
            return ILLEGAL_STATE;
        }
        problem.copyFrom(snapshot(slot));
        history.clear();
        slice();
        return problem.statementCount();
    }

    /** Every change of the state ends here, so that cuts and classes always fit the state. */
    private void slice() {
        cuts.cut(problem);
        classes.clear();
        for (int equation = 0; equation < problem.equations.count(); equation++) {
            classes.equate(problem.equations, equation);
        }
        modelIsCurrent = false;
    }

    private void tryEquations(int set) {
        trial.clear();
        for (int equation = 0; equation < problem.equations.count(); equation++) {
            if ((set & 1 << equation) != 0) {
                trial.equate(problem.equations, equation);
            }
        }
    }

    private Model chosenModel() {
        if (!modelIsCurrent) {
            model.choose(problem.disequations, classes);
            modelIsCurrent = true;
        }
        return model;
    }

    private int slicesOf(int variable) {
        return problem.widthOf(variable) == 0 ? 0 : cuts.countOf(variable) + 1;
    }

    private boolean isSlice(int variable, int slice) {
        return isVariable(variable) && slice >= 0 && slice < slicesOf(variable);
    }

    private boolean isBit(int variable, int bit) {
        return isVariable(variable) && bit >= 0 && bit < problem.widthOf(variable);
    }

    private Problem snapshot(int slot) {
        return slot == 0 ? firstSnapshot : secondSnapshot;
    }

    private static boolean isSlot(int slot) {
        return slot >= 0 && slot < SLOTS;
    }

    private static boolean isVariable(int variable) {
        return variable >= 0 && variable < VARIABLES;
    }

    private static int nodeOf(int variable, int bit) {
        return variable * MAX_WIDTH + bit;
    }

    private static int variableOf(int node) {
        return node / MAX_WIDTH;
    }

    private static int bitOf(int node) {
        return node % MAX_WIDTH;
    }

    private static boolean isConstantNode(int node) {
        return node >= CONSTANT;
    }

    /** The text, the tokens that it falls into, and the token at which the reading stands. */
    private static final class Text {
        /** Kinds of tokens; a token that is one character has the character as its kind. */
        static final int WORD = 256;
        static final int DIGITS = 257;
        static final int NAME = 258;
        static final int BITS = 259;
        static final int NOT = 260;
        static final int END = 261;

        private final char[] signs = new char[TEXT_LIMIT];
        private int length;
        private final int[] kinds = new int[TEXT_LIMIT];
        private final int[] starts = new int[TEXT_LIMIT];
        private final int[] lengths = new int[TEXT_LIMIT];
        private int tokens;
        private int at;

        int length() {
            return length;
        }

        boolean isFull() {
            return length >= TEXT_LIMIT;
        }

        void add(char sign) {
            if (!isFull()) {
                signs[length] = sign;
                length++;
            }
        }

        void clear() {
            length = 0;
        }

        /** Cuts the text into tokens, and stands at the first one. */
        void split() {
            tokens = 0;
            at = 0;
            int previous = ' ';
            for (int i = 0; i < length; i++) {
                int kind = kindOfSign(signs[i]);
                boolean isRun = kind == WORD || kind == DIGITS;
                if (isRun && kind == previous && tokens > 0) {
                    lengths[tokens - 1]++;
                } else if (kind != ' ') {
                    kinds[tokens] = kind;
                    starts[tokens] = i;
                    lengths[tokens] = 1;
                    tokens++;
                }
                previous = kind;
            }
            for (int token = 0; token < tokens; token++) {
                if (kinds[token] == WORD) {
                    kinds[token] = kindOfWord(starts[token], lengths[token]);
                }
            }
        }

        int kind() {
            return at < tokens ? kinds[at] : END;
        }

        int start() {
            return at < tokens ? starts[at] : length;
        }

        void advance() {
            if (at < tokens) {
                at++;
            }
        }

        /** Goes on to the next token, if the present one is of the kind. */
        boolean pass(int kind) {
            if (at >= tokens || kinds[at] != kind) {
                return false;
            }
            at++;
            return true;
        }

        /** The variable that the token names, or NONE. */
        int name() {
            return at < tokens && kinds[at] == NAME ? signs[starts[at]] - 'a' : NONE;
        }

        /** The number that the token stands for, or NONE if it is not allowed as a number. */
        int number() {
            if (at >= tokens || kinds[at] != DIGITS) {
                return NONE;
            }
            int first = signs[starts[at]] - '0';
            if (lengths[at] == 1) {
                return first;
            }
            boolean isTwoDigits = lengths[at] == 2 && first != 0;
            return isTwoDigits ? 10 * first + signs[starts[at] + 1] - '0' : NONE;
        }

        /** How many constant bits the token stands for, 0 if it is not allowed as a constant. */
        int constantBits() {
            if (at >= tokens || kinds[at] != DIGITS || lengths[at] > MAX_WIDTH) {
                return 0;
            }
            for (int i = 0; i < lengths[at]; i++) {
                if (signs[starts[at] + i] > '1') {
                    return 0;
                }
            }
            return lengths[at];
        }

        /** The i-th constant bit of the token, from the most significant one on. */
        int constantBit(int i) {
            boolean isThere = at < tokens && i >= 0 && i < lengths[at];
            return isThere && signs[starts[at] + i] == '1' ? 1 : 0;
        }

        private int kindOfWord(int start, int size) {
            if (size == 1 && signs[start] < 'a' + VARIABLES) {
                return NAME;
            }
            if (isWord(start, size, "bits")) {
                return BITS;
            }
            return isWord(start, size, "not") ? NOT : WORD;
        }

        private boolean isWord(int start, int size, String word) {
            if (size != word.length()) {
                return false;
            }
            for (int i = 0; i < size; i++) {
                if (signs[start + i] != word.charAt(i)) {
                    return false;
                }
            }
            return true;
        }

        private static int kindOfSign(char sign) {
            if (sign >= 'a' && sign <= 'z') {
                return WORD;
            }
            return sign >= '0' && sign <= '9' ? DIGITS : sign;
        }
    }

    /**
     * Reads the text by its grammar. A method that answers false has stopped at the token that is
     * not allowed, and no caller goes on from there, so the error position is where it stands.
     */
    private static final class Reader {
        private final Text text;
        private final Term term = new Term();
        private int high;
        private int low;

        Reader(Text text) {
            this.text = text;
        }

        /** Answers the error position, or NONE if the text is a valid problem. */
        int read(Problem target) {
            target.clear();
            text.split();
            boolean isGood = true;
            for (int i = 0; i < TEXT_LIMIT && isGood && text.kind() != Text.END; i++) {
                isGood = text.pass(Text.BITS) ? readDeclaration(target) : readStatement(target);
            }
            return isGood ? NONE : text.start();
        }

        private boolean readDeclaration(Problem target) {
            int variable = text.name();
            if (variable == NONE || target.widthOf(variable) != 0) {
                return false;
            }
            text.advance();
            int number = text.number();
            if (number < 1 || number > MAX_WIDTH) {
                return false;
            }
            text.advance();
            target.declare(variable, number);
            return text.pass(';');
        }

        private boolean readStatement(Problem target) {
            boolean isNegated = text.kind() == Text.NOT;
            Statements list = isNegated ? target.disequations : target.equations;
            if (list.isFull()) {
                return false;
            }
            if (isNegated) {
                text.advance();
            }
            if (!readTerm(target) || term.bitCount() > MAX_WIDTH || !text.pass('=')) {
                return false;
            }
            int width = term.bitCount();
            list.putTerm(LEFT, term);
            if (!readTerm(target) || term.bitCount() != width || !text.pass(';')) {
                return false;
            }
            list.putTerm(RIGHT, term);
            list.finish(width);
            return true;
        }

        private boolean readTerm(Problem target) {
            term.clear();
            boolean isGood = readPart(target);
            for (int i = 0; i < TEXT_LIMIT && isGood && text.pass('.'); i++) {
                isGood = readPart(target);
            }
            return isGood;
        }

        private boolean readPart(Problem target) {
            if (text.pass('%')) {
                return readConstant();
            }
            int variable = text.name();
            if (variable == NONE || target.widthOf(variable) == 0) {
                return false;
            }
            text.advance();
            high = target.widthOf(variable) - 1;
            low = 0;
            if (text.pass('[') && !readRange()) {
                return false;
            }
            term.addRange(nodeOf(variable, high), nodeOf(variable, low));
            return true;
        }

        /** Narrows the range from high to low, which holds all bits of the variable before. */
        private boolean readRange() {
            int first = text.number();
            if (first < 0 || first > high) {
                return false;
            }
            high = first;
            text.advance();
            if (!text.pass(':')) {
                return false;
            }
            int second = text.number();
            if (second < 0 || second > high) {
                return false;
            }
            low = second;
            text.advance();
            return text.pass(']');
        }

        private boolean readConstant() {
            int count = text.constantBits();
            if (count == 0) {
                return false;
            }
            term.beginPart();
            for (int i = 0; i < count; i++) {
                term.add(CONSTANT + text.constantBit(i));
            }
            text.advance();
            return true;
        }
    }

    /**
     * The term that is being read, from its most significant bit on. A text can hold terms far
     * wider than allowed, which are refused only behind their end: of these, the bits beyond the
     * allowed ones are counted, but not kept.
     */
    private static final class Term {
        private final int[] nodes = new int[MAX_WIDTH];
        private int partBegins;
        private int width;

        void clear() {
            partBegins = 0;
            width = 0;
        }

        int bitCount() {
            return width;
        }

        void beginPart() {
            if (width < MAX_WIDTH) {
                partBegins |= 1 << width;
            }
        }

        void add(int node) {
            if (width < MAX_WIDTH) {
                nodes[width] = node;
            }
            width++;
        }

        void addRange(int high, int low) {
            beginPart();
            for (int node = high; node >= low; node--) {
                add(node);
            }
        }

        /** The node at a bit of the term, where bit 0 is the least significant one. */
        int node(int bit) {
            int i = width - 1 - bit;
            return i >= 0 && i < MAX_WIDTH ? nodes[i] : CONSTANT;
        }

        /** Tells whether the bit is the most significant one of its part. */
        boolean partBeginsAt(int bit) {
            int i = width - 1 - bit;
            return i >= 0 && i < MAX_WIDTH && (partBegins & 1 << i) != 0;
        }
    }

    /** A list of statements, each with a left and a right term of the same width. */
    private static final class Statements {
        private final int capacity;
        private int count;
        private final int[] widths;
        private final int[] nodes;
        /** For each term, the positions between two bits of different parts. */
        private final int[] partEnds;

        Statements(int limit) {
            capacity = Math.max(limit, 0);
            widths = new int[capacity];
            nodes = new int[capacity * SIDES * MAX_WIDTH];
            partEnds = new int[capacity * SIDES];
        }

        int count() {
            return count;
        }

        boolean isFull() {
            return count >= capacity;
        }

        boolean has(int statement) {
            return statement >= 0 && statement < count;
        }

        int widthOf(int statement) {
            return has(statement) ? widths[statement] : 0;
        }

        int node(int statement, int side, int bit) {
            return nodes[(statement * SIDES + side) * MAX_WIDTH + bit];
        }

        /** Tells whether the bit and the one below it belong to different parts of the term. */
        boolean partEndsAt(int statement, int side, int bit) {
            return (partEnds[statement * SIDES + side] & 1 << bit) != 0;
        }

        void clear() {
            count = 0;
        }

        void putTerm(int side, Term term) {
            if (isFull() || term.bitCount() > MAX_WIDTH) {
                return;
            }
            int row = count * SIDES + side;
            partEnds[row] = 0;
            for (int bit = 0; bit < term.bitCount(); bit++) {
                nodes[row * MAX_WIDTH + bit] = term.node(bit);
                if (bit > 0 && term.partBeginsAt(bit - 1)) {
                    partEnds[row] |= 1 << bit;
                }
            }
        }

        /** Makes the two terms that were put last a statement of the list. */
        void finish(int width) {
            if (!isFull()) {
                widths[count] = width;
                count++;
            }
        }

        void copyFrom(Statements other) {
            count = Math.min(other.count, capacity);
            move(other, 0, 0, count);
        }

        void drop(int statement) {
            if (has(statement)) {
                count--;
                move(this, statement + 1, statement, count - statement);
            }
        }

        private void move(Statements source, int from, int to, int moved) {
            int bits = SIDES * MAX_WIDTH;
            System.arraycopy(source.widths, from, widths, to, moved);
            System.arraycopy(source.nodes, from * bits, nodes, to * bits, moved * bits);
            System.arraycopy(source.partEnds, from * SIDES, partEnds, to * SIDES, moved * SIDES);
        }
    }

    /** A state: the variables, the equations and the disequations. */
    private static final class Problem {
        private final int[] widths = new int[VARIABLES];
        final Statements equations = new Statements(MAX_EQUATIONS);
        final Statements disequations = new Statements(MAX_DISEQUATIONS);

        int widthOf(int variable) {
            return isVariable(variable) ? widths[variable] : 0;
        }

        int statementCount() {
            return equations.count() + disequations.count();
        }

        void declare(int variable, int width) {
            if (isVariable(variable)) {
                widths[variable] = width;
            }
        }

        void clear() {
            Arrays.fill(widths, 0);
            equations.clear();
            disequations.clear();
        }

        void copyFrom(Problem other) {
            System.arraycopy(other.widths, 0, widths, 0, VARIABLES);
            equations.copyFrom(other.equations);
            disequations.copyFrom(other.disequations);
        }
    }

    /** The states that undo() can restore, the oldest one first. */
    private static final class History {
        private final Problem[] saved = new Problem[MAX_SAVED];
        private int depth;

        History() {
            for (int i = 0; i < MAX_SAVED; i++) {
                saved[i] = new Problem();
            }
        }

        int depth() {
            return depth;
        }

        void clear() {
            depth = 0;
        }

        void push(Problem problem) {
            if (depth >= MAX_SAVED) {
                forgetOldest();
            }
            saved[depth].copyFrom(problem);
            depth++;
        }

        void popInto(Problem problem) {
            if (depth > 0) {
                depth--;
                problem.copyFrom(saved[depth]);
            }
        }

        /** Turns the row round instead of copying the states, so that the oldest one is used again. */
        private void forgetOldest() {
            Problem oldest = saved[0];
            for (int i = 1; i < MAX_SAVED; i++) {
                saved[i - 1] = saved[i];
            }
            saved[MAX_SAVED - 1] = oldest;
            depth = MAX_SAVED - 1;
        }
    }

    /** The cuts of the variables: bit p of a variable's set stands for the cut p. */
    private static final class Cuts {
        private final int[] sets = new int[VARIABLES];

        int countOf(int variable) {
            return Integer.bitCount(sets[variable]);
        }

        int startOf(int variable, int slice) {
            int seen = 0;
            for (int bit = 1; bit < MAX_WIDTH && seen < slice; bit++) {
                if ((sets[variable] & 1 << bit) != 0) {
                    seen++;
                    if (seen == slice) {
                        return bit;
                    }
                }
            }
            return 0;
        }

        int sliceAt(int variable, int bit) {
            int cutsUpToBit = sets[variable] & (2 << bit) - 1;
            return Integer.bitCount(cutsUpToBit);
        }

        void cut(Problem problem) {
            Arrays.fill(sets, 0);
            for (int equation = 0; equation < problem.equations.count(); equation++) {
                cutAroundParts(problem, equation, LEFT);
                cutAroundParts(problem, equation, RIGHT);
            }
            // A round that changes something adds a cut, and there are fewer cuts than nodes.
            boolean isChanged = true;
            for (int round = 0; round < NODES && isChanged; round++) {
                isChanged = false;
                for (int equation = 0; equation < problem.equations.count(); equation++) {
                    boolean isLeftChanged = spread(problem.equations, equation, RIGHT, LEFT);
                    boolean isRightChanged = spread(problem.equations, equation, LEFT, RIGHT);
                    isChanged = isChanged || isLeftChanged || isRightChanged;
                }
            }
        }

        private void cutAroundParts(Problem problem, int equation, int side) {
            Statements list = problem.equations;
            int width = list.widthOf(equation);
            for (int bit = 0; bit < width; bit++) {
                int node = list.node(equation, side, bit);
                if (isConstantNode(node)) {
                    continue;
                }
                if (bit == 0 || list.partEndsAt(equation, side, bit)) {
                    cutBelow(problem, variableOf(node), bitOf(node));
                }
                if (bit == width - 1 || list.partEndsAt(equation, side, bit + 1)) {
                    cutBelow(problem, variableOf(node), bitOf(node) + 1);
                }
            }
        }

        private void cutBelow(Problem problem, int variable, int bit) {
            if (bit >= 1 && bit < problem.widthOf(variable)) {
                sets[variable] |= 1 << bit;
            }
        }

        /** Brings the marks of one term into the variables of the other; tells if a cut is new. */
        private boolean spread(Statements list, int equation, int from, int to) {
            boolean isChanged = false;
            for (int bit = 1; bit < list.widthOf(equation); bit++) {
                int node = list.node(equation, to, bit);
                boolean isInside = !isConstantNode(node) && !list.partEndsAt(equation, to, bit);
                if (isInside && !isCut(node) && isMarked(list, equation, from, bit)) {
                    sets[variableOf(node)] |= 1 << bitOf(node);
                    isChanged = true;
                }
            }
            return isChanged;
        }

        private boolean isMarked(Statements list, int equation, int side, int bit) {
            if (list.partEndsAt(equation, side, bit)) {
                return true;
            }
            int node = list.node(equation, side, bit);
            return !isConstantNode(node) && isCut(node);
        }

        private boolean isCut(int node) {
            return (sets[variableOf(node)] & 1 << bitOf(node)) != 0;
        }
    }

    /**
     * Classes of nodes that equations make equal. The smallest node of a class is its root.
     * Constants are no nodes of a class, lest they join slices that no chain of pieces joins.
     */
    private static final class Classes {
        private final int[] parents = new int[NODES];
        /** At a root, the constant that its class is equated with, or FREE. */
        private final int[] constants = new int[NODES];
        private boolean isAgreed;

        Classes() {
            clear();
        }

        void clear() {
            for (int node = 0; node < NODES; node++) {
                parents[node] = node;
            }
            Arrays.fill(constants, FREE);
            isAgreed = true;
        }

        boolean agree() {
            return isAgreed;
        }

        int rootOf(int node) {
            int root = node;
            // A parent is smaller than its child, so no chain is longer than the row.
            for (int step = 0; step < NODES && parents[root] != root; step++) {
                parents[root] = parents[parents[root]];
                root = parents[root];
            }
            return root;
        }

        /** The constant that a node of a term has to be, or FREE. */
        int constantOf(int node) {
            return isConstantNode(node) ? node - CONSTANT : constants[rootOf(node)];
        }

        void equate(Statements list, int statement) {
            for (int bit = 0; bit < list.widthOf(statement); bit++) {
                join(list.node(statement, LEFT, bit), list.node(statement, RIGHT, bit));
            }
        }

        private void join(int left, int right) {
            if (isConstantNode(left) && isConstantNode(right)) {
                isAgreed = isAgreed && left == right;
            } else if (isConstantNode(left)) {
                fix(rootOf(right), left - CONSTANT);
            } else if (isConstantNode(right)) {
                fix(rootOf(left), right - CONSTANT);
            } else {
                unite(rootOf(left), rootOf(right));
            }
        }

        private void fix(int root, int constant) {
            if (constants[root] == FREE) {
                constants[root] = constant;
            } else if (constant != FREE && constants[root] != constant) {
                isAgreed = false;
            }
        }

        private void unite(int root, int otherRoot) {
            int smaller = Math.min(root, otherRoot);
            int greater = Math.max(root, otherRoot);
            if (smaller != greater) {
                parents[greater] = smaller;
                fix(smaller, constants[greater]);
            }
        }
    }

    /**
     * The chosen model. A word holds, for each disequation, 16 bits that tell where its terms
     * differ; a free bit that becomes 1 flips the places where it stands on one side alone. So a
     * model is a set of free bits whose flips leave no disequation without a one. Sets are tried
     * by size and then in the order of free bits, and the first one that fits is the chosen one.
     */
    private static final class Model {
        private static final long FIRST = 0xFFFFL;
        private static final long SECOND = 0xFFFF0000L;
        private static final long THIRD = 0xFFFF00000000L;

        private final long[] flips = new long[NODES];
        /** Free bits that flip something: in a model with the fewest ones, no other bit is 1. */
        private final int[] candidates = new int[NODES];
        private int candidateCount;
        /** There are never more ones than disequations. */
        private final int[] ones = new int[MAX_DISEQUATIONS];
        private int oneCount;

        /** The number of ones, or NONE if there is no model. */
        int oneCount() {
            return oneCount;
        }

        boolean hasOne(int root) {
            for (int i = 0; i < oneCount; i++) {
                if (ones[i] == root) {
                    return true;
                }
            }
            return false;
        }

        void choose(Statements disequations, Classes classes) {
            oneCount = NONE;
            if (!classes.agree()) {
                return;
            }
            long word = wordOfZeros(disequations, classes);
            gatherCandidates();
            if (holds(word)) {
                oneCount = 0;
            } else if (pickLast(0, 0, word)) {
                oneCount = 1;
            } else if (pickLastTwo(0, 0, word)) {
                oneCount = 2;
            } else if (pickThree(word)) {
                oneCount = 3;
            }
        }

        /** Gathers the flips, and answers the word of the model in which all free bits are 0. */
        private long wordOfZeros(Statements disequations, Classes classes) {
            Arrays.fill(flips, 0L);
            long word = 0L;
            for (int k = 0; k < MAX_DISEQUATIONS; k++) {
                if (!disequations.has(k)) {
                    // A disequation that isn't there counts as one that always holds.
                    word |= 1L << k * MAX_WIDTH;
                }
                for (int bit = 0; bit < disequations.widthOf(k); bit++) {
                    long place = 1L << k * MAX_WIDTH + bit;
                    word ^= constantPlace(disequations.node(k, LEFT, bit), place, classes);
                    word ^= constantPlace(disequations.node(k, RIGHT, bit), place, classes);
                }
            }
            return word;
        }

        /** Answers the place if the node is fixed to 1; notes the flip if the node is free. */
        private long constantPlace(int node, long place, Classes classes) {
            int constant = classes.constantOf(node);
            if (constant == FREE) {
                flips[classes.rootOf(node)] ^= place;
            }
            return constant == 1 ? place : 0L;
        }

        private void gatherCandidates() {
            candidateCount = 0;
            for (int node = 0; node < NODES; node++) {
                if (flips[node] != 0L) {
                    candidates[candidateCount] = node;
                    candidateCount++;
                }
            }
        }

        private boolean pickThree(long word) {
            for (int i = 0; i < candidateCount; i++) {
                ones[0] = candidates[i];
                if (pickLastTwo(1, i + 1, word ^ flips[candidates[i]])) {
                    return true;
                }
            }
            return false;
        }

        private boolean pickLastTwo(int place, int from, long word) {
            for (int i = from; i < candidateCount; i++) {
                ones[place] = candidates[i];
                if (pickLast(place + 1, i + 1, word ^ flips[candidates[i]])) {
                    return true;
                }
            }
            return false;
        }

        private boolean pickLast(int place, int from, long word) {
            for (int i = from; i < candidateCount; i++) {
                if (holds(word ^ flips[candidates[i]])) {
                    ones[place] = candidates[i];
                    return true;
                }
            }
            return false;
        }

        private static boolean holds(long word) {
            return (word & FIRST) != 0L && (word & SECOND) != 0L && (word & THIRD) != 0L;
        }
    }
}
