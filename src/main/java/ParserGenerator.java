/** Grammars put together from nodes, checked, analysed, and used to parse rows of tokens into trees. */
public final class ParserGenerator {
    public static final int REFUSED = -1;
    public static final int FULL = -2;
    public static final int UNDEFINED = -3;
    public static final int RECURSIVE = -4;
    public static final int ENDLESS = -5;
    public static final int MISMATCH = -6;
    public static final int DEEP = -7;
    public static final int TIRED = -8;
    public static final int LARGE = -9;
    public static final int NONE = -10;

    private static final int TOKEN = 0;
    private static final int CALL = 1;
    private static final int THEN = 2;
    private static final int OR = 3;
    private static final int MAYBE = 4;
    private static final int MANY = 5;
    private static final int NOTHING = 6;
    private static final int AHEAD = 7;
    private static final int NAMED = 8;
    private static final int KINDS = 9;

    private static final int TOKENS = 10;
    private static final int END = 10;
    private static final int RULES = 8;
    private static final int LABELS = 16;
    private static final int MAX_NODES = 60;
    private static final int MAX_LEVEL = 6;
    private static final int MAX_INPUT = 40;
    private static final int MAX_CALLS = 6;
    private static final int MAX_STEPS = 1500;
    private static final int MAX_TREES = 90;

    // Every round of a search for least sets but the last adds an element, so this many always do.
    private static final int MAX_ROUNDS = MAX_NODES * (TOKENS + 1) + 1;

    private static final int OK = 0;
    private static final int ABSENT = -1;

    private final Grammar grammar;
    private final Analysis analysis;
    private final Input input;
    private final Forest forest;
    private final Parser parser;

    public ParserGenerator() {
        grammar = new Grammar();
        analysis = new Analysis(grammar);
        input = new Input();
        forest = new Forest();
        parser = new Parser(grammar, analysis, input, forest);
    }

    public int node(int kind, int a, int b) {
        return grammar.make(kind, a, b);
    }

    public int rule(int r, int node) {
        return grammar.define(r, node);
    }

    public int compile(int r) {
        return within(r, RULES) ? analysis.build(r) : REFUSED;
    }

    public int empty(int node) {
        if (!analysis.covers(node)) {
            return REFUSED;
        }
        return analysis.emptyable[node] ? 1 : 0;
    }

    public int first(int node) {
        return analysis.covers(node) ? analysis.first[node] : REFUSED;
    }

    public int next(int node) {
        return analysis.covers(node) ? analysis.next[node] : REFUSED;
    }

    public int clash(int node) {
        return analysis.covers(node) ? analysis.clashOf(node) : REFUSED;
    }

    public int feed(int token) {
        return input.append(token);
    }

    public int wipe() {
        int length = input.length;
        input.length = 0;
        return length;
    }

    public int parse() {
        return analysis.compiled ? parser.run() : REFUSED;
    }

    public int place() {
        return parser.place;
    }

    public int due() {
        return parser.due;
    }

    public int tree(int i, int what) {
        return forest.tell(i, what);
    }

    public int count(int what) {
        switch (what) {
            case 0:
                return grammar.size;
            case 1:
                return input.length;
            case 2:
                return forest.size;
            case 3:
                return parser.steps;
            case 4:
                return analysis.clashing();
            case 5:
                return analysis.usedNodes();
            default:
                return REFUSED;
        }
    }

    private static boolean within(int number, int bound) {
        return number >= 0 && number < bound;
    }

    /** The nodes made so far, and the rules as they are now. */
    private static final class Grammar {
        final int[] kind = new int[MAX_NODES];
        final int[] left = new int[MAX_NODES];
        final int[] right = new int[MAX_NODES];
        final int[] rules = new int[RULES];
        private final int[] level = new int[MAX_NODES];
        int size;

        Grammar() {
            for (int r = 0; r < RULES; r++) {
                rules[r] = ABSENT;
            }
        }

        int make(int newKind, int a, int b) {
            if (!within(newKind, KINDS) || !leftFits(newKind, a) || !rightFits(newKind, b)) {
                return REFUSED;
            }
            int newLevel = levelAbove(newKind, a, b);
            if (newLevel > MAX_LEVEL) {
                return REFUSED;
            }
            if (size >= MAX_NODES) {
                return FULL;
            }
            kind[size] = newKind;
            left[size] = a;
            right[size] = b;
            level[size] = newLevel;
            size++;
            return size - 1;
        }

        int define(int r, int node) {
            if (!within(r, RULES) || !within(node, size)) {
                return REFUSED;
            }
            rules[r] = node;
            return 0;
        }

        boolean leftIsNode(int someKind) {
            return someKind == THEN || someKind == OR || someKind == MAYBE || someKind == MANY || someKind == AHEAD;
        }

        boolean rightIsNode(int someKind) {
            return someKind == THEN || someKind == OR || someKind == AHEAD || someKind == NAMED;
        }

        private boolean leftFits(int newKind, int a) {
            switch (newKind) {
                case TOKEN:
                    return within(a, TOKENS);
                case CALL:
                    return within(a, RULES);
                case NOTHING:
                    return true;
                case NAMED:
                    return within(a, LABELS);
                default:
                    return within(a, size);
            }
        }

        private boolean rightFits(int newKind, int b) {
            return !rightIsNode(newKind) || within(b, size);
        }

        private int levelAbove(int newKind, int a, int b) {
            int below = 0;
            if (leftIsNode(newKind)) {
                below = level[a];
            }
            if (rightIsNode(newKind)) {
                below = Math.max(below, level[b]);
            }
            return below + 1;
        }
    }

    /** What compiling finds out of the nodes that a rule uses, with the rules as they were then. */
    private static final class Analysis {
        private final Grammar grammar;
        private final boolean[] used = new boolean[MAX_NODES];
        private final int[] comesTo = new int[MAX_NODES];
        final boolean[] emptyable = new boolean[MAX_NODES];
        final int[] first = new int[MAX_NODES];
        final int[] next = new int[MAX_NODES];
        final int[] rules = new int[RULES];
        int rootNode;
        boolean compiled;
        private boolean changed;

        Analysis(Grammar grammar) {
            this.grammar = grammar;
        }

        int build(int root) {
            compiled = false;
            if (grammar.rules[root] == ABSENT) {
                return UNDEFINED;
            }
            forget();
            System.arraycopy(grammar.rules, 0, rules, 0, RULES);
            rootNode = rules[root];
            findUsed();
            if (callsUndefined()) {
                return UNDEFINED;
            }
            findEmptyable();
            findBeginnings(comesTo, CALL);
            if (comesToItself(root) || someCalledComesToItself()) {
                return RECURSIVE;
            }
            if (repeatsEmptyable()) {
                return ENDLESS;
            }
            findBeginnings(first, TOKEN);
            findNext();
            compiled = true;
            return usedNodes();
        }

        boolean covers(int node) {
            return compiled && within(node, grammar.size) && used[node];
        }

        int start(int node) {
            return emptyable[node] ? first[node] | next[node] : first[node];
        }

        int clashOf(int node) {
            int a = grammar.left[node];
            switch (grammar.kind[node]) {
                case OR:
                    return start(a) & start(grammar.right[node]);
                case MAYBE:
                case MANY:
                    return first[a] & next[node];
                default:
                    return 0;
            }
        }

        int clashing() {
            int found = 0;
            for (int node = 0; node < grammar.size; node++) {
                if (covers(node) && clashOf(node) != 0) {
                    found++;
                }
            }
            return found;
        }

        int usedNodes() {
            int found = 0;
            for (int node = 0; node < grammar.size; node++) {
                if (covers(node)) {
                    found++;
                }
            }
            return found;
        }

        private void forget() {
            for (int node = 0; node < MAX_NODES; node++) {
                used[node] = false;
                emptyable[node] = false;
                comesTo[node] = 0;
                first[node] = 0;
                next[node] = 0;
            }
        }

        private void findUsed() {
            use(rootNode);
            changed = true;
            for (int round = 0; changed && round < MAX_ROUNDS; round++) {
                changed = false;
                for (int node = grammar.size - 1; node >= 0; node--) {
                    if (used[node]) {
                        useParts(node);
                    }
                }
            }
        }

        private void useParts(int node) {
            int kind = grammar.kind[node];
            if (kind == CALL && rules[grammar.left[node]] != ABSENT) {
                use(rules[grammar.left[node]]);
            }
            if (grammar.leftIsNode(kind)) {
                use(grammar.left[node]);
            }
            if (grammar.rightIsNode(kind)) {
                use(grammar.right[node]);
            }
        }

        private void use(int node) {
            if (!used[node]) {
                used[node] = true;
                changed = true;
            }
        }

        private boolean usedAs(int node, int kind) {
            return used[node] && grammar.kind[node] == kind;
        }

        private boolean callsUndefined() {
            for (int node = 0; node < grammar.size; node++) {
                if (usedAs(node, CALL) && rules[grammar.left[node]] == ABSENT) {
                    return true;
                }
            }
            return false;
        }

        private boolean someCalledComesToItself() {
            for (int node = 0; node < grammar.size; node++) {
                if (usedAs(node, CALL) && comesToItself(grammar.left[node])) {
                    return true;
                }
            }
            return false;
        }

        private boolean comesToItself(int r) {
            return (comesTo[rules[r]] & 1 << r) != 0;
        }

        private boolean repeatsEmptyable() {
            for (int node = 0; node < grammar.size; node++) {
                if (usedAs(node, MANY) && emptyable[grammar.left[node]]) {
                    return true;
                }
            }
            return false;
        }

        private void findEmptyable() {
            changed = true;
            for (int round = 0; changed && round < MAX_ROUNDS; round++) {
                changed = false;
                for (int node = 0; node < grammar.size; node++) {
                    if (used[node] && !emptyable[node] && canBeEmpty(node)) {
                        emptyable[node] = true;
                        changed = true;
                    }
                }
            }
        }

        private boolean canBeEmpty(int node) {
            int a = grammar.left[node];
            int b = grammar.right[node];
            switch (grammar.kind[node]) {
                case CALL:
                    return emptyable[rules[a]];
                case THEN:
                    return emptyable[a] && emptyable[b];
                case OR:
                    return emptyable[a] || emptyable[b];
                case MAYBE:
                case MANY:
                case NOTHING:
                    return true;
                case AHEAD:
                case NAMED:
                    return emptyable[b];
                default:
                    return false;
            }
        }

        /** FIRST and COMES TO grow along the same parts and differ only in the kind that adds its own number. */
        private void findBeginnings(int[] sets, int addingKind) {
            changed = true;
            for (int round = 0; changed && round < MAX_ROUNDS; round++) {
                changed = false;
                for (int node = 0; node < grammar.size; node++) {
                    if (used[node]) {
                        int own = grammar.kind[node] == addingKind ? 1 << grammar.left[node] : 0;
                        grow(sets, node, own | ofBeginnings(sets, node));
                    }
                }
            }
        }

        private int ofBeginnings(int[] sets, int node) {
            int a = grammar.left[node];
            int b = grammar.right[node];
            switch (grammar.kind[node]) {
                case CALL:
                    return sets[rules[a]];
                case THEN:
                    return emptyable[a] ? sets[a] | sets[b] : sets[a];
                case OR:
                    return sets[a] | sets[b];
                case MAYBE:
                case MANY:
                    return sets[a];
                case AHEAD:
                case NAMED:
                    return sets[b];
                default:
                    return 0;
            }
        }

        private void findNext() {
            grow(next, rootNode, 1 << END);
            changed = true;
            for (int round = 0; changed && round < MAX_ROUNDS; round++) {
                changed = false;
                for (int node = grammar.size - 1; node >= 0; node--) {
                    if (used[node]) {
                        giveNext(node);
                    }
                }
            }
        }

        private void giveNext(int node) {
            int a = grammar.left[node];
            int b = grammar.right[node];
            int own = next[node];
            switch (grammar.kind[node]) {
                case CALL:
                    grow(next, rules[a], own);
                    break;
                case THEN:
                    grow(next, b, own);
                    // Not NEXT of b: b may stand in other places too, and those say nothing about this a.
                    grow(next, a, emptyable[b] ? first[b] | own : first[b]);
                    break;
                case OR:
                    grow(next, a, own);
                    grow(next, b, own);
                    break;
                case MAYBE:
                    grow(next, a, own);
                    break;
                case MANY:
                    grow(next, a, own | first[a]);
                    break;
                case AHEAD:
                case NAMED:
                    grow(next, b, own);
                    break;
                default:
                    break;
            }
        }

        private void grow(int[] sets, int node, int more) {
            int grown = sets[node] | more;
            if (grown != sets[node]) {
                sets[node] = grown;
                changed = true;
            }
        }
    }

    /** The row of tokens to be parsed. */
    private static final class Input {
        private final int[] tokens = new int[MAX_INPUT];
        int length;

        int append(int token) {
            if (!within(token, TOKENS)) {
                return REFUSED;
            }
            if (length >= MAX_INPUT) {
                return FULL;
            }
            tokens[length] = token;
            length++;
            return length;
        }

        int at(int place) {
            return within(place, length) ? tokens[place] : END;
        }
    }

    /** The trees and leaves of the last parse; none of them if it had an error. */
    private static final class Forest {
        private final int[] labels = new int[MAX_TREES];
        private final int[] parts = new int[MAX_TREES];
        private final int[] places = new int[MAX_TREES];
        private int open = ABSENT;
        int size;

        void clear() {
            size = 0;
            open = ABSENT;
        }

        boolean isFull() {
            return size >= MAX_TREES;
        }

        void addLeaf(int token, int place) {
            add(LABELS + token, place);
        }

        /** Answers the tree that was open before, with which the new one is closed again. */
        int openTree(int label, int place) {
            int outer = open;
            add(label, place);
            open = size - 1;
            return outer;
        }

        void closeTree(int outer) {
            open = outer;
        }

        int tell(int i, int what) {
            if (!within(what, 3)) {
                return REFUSED;
            }
            if (!within(i, size)) {
                return NONE;
            }
            if (what == 0) {
                return labels[i];
            }
            return what == 1 ? parts[i] : places[i];
        }

        private void add(int label, int place) {
            labels[size] = label;
            parts[size] = 0;
            places[size] = place;
            size++;
            if (open != ABSENT) {
                parts[open]++;
            }
        }
    }

    /**
     * Goes down the compiled nodes. Its depth is bounded by MAX_CALLS and by MAX_LEVEL, since an operand's
     * level is lower than its node's.
     */
    private static final class Parser {
        private static final int CHOSEN = 1;
        private static final int PASSED_BY = 0;

        private final Grammar grammar;
        private final Analysis analysis;
        private final Input input;
        private final Forest forest;
        int place = NONE;
        int due = NONE;
        int steps;

        Parser(Grammar grammar, Analysis analysis, Input input, Forest forest) {
            this.grammar = grammar;
            this.analysis = analysis;
            this.input = input;
            this.forest = forest;
        }

        int run() {
            place = 0;
            due = NONE;
            steps = 0;
            forest.clear();
            int error = visit(analysis.rootNode, 0, false);
            if (error == OK && input.at(place) != END) {
                due = END;
                error = MISMATCH;
            }
            if (error != OK) {
                forest.clear();
            }
            return error;
        }

        private int visit(int node, int calls, boolean scanning) {
            if (steps >= MAX_STEPS) {
                return TIRED;
            }
            steps++;
            switch (grammar.kind[node]) {
                case TOKEN:
                    return visitToken(grammar.left[node], scanning);
                case CALL:
                    return visitCall(grammar.left[node], calls, scanning);
                case THEN:
                    return visitThen(node, calls, scanning);
                case OR:
                    return visitOr(node, calls, scanning);
                case MAYBE:
                    return visitMaybe(node, calls, scanning);
                case MANY:
                    return visitMany(node, calls, scanning);
                case AHEAD:
                    return visit(grammar.right[node], calls, scanning);
                case NAMED:
                    return visitNamed(node, calls, scanning);
                default:
                    return OK;
            }
        }

        private int visitToken(int token, boolean scanning) {
            if (input.at(place) != token) {
                if (!scanning) {
                    due = token;
                }
                return MISMATCH;
            }
            if (!scanning) {
                if (forest.isFull()) {
                    return LARGE;
                }
                forest.addLeaf(token, place);
            }
            place++;
            return OK;
        }

        private int visitCall(int r, int calls, boolean scanning) {
            if (calls >= MAX_CALLS) {
                return DEEP;
            }
            return visit(analysis.rules[r], calls + 1, scanning);
        }

        private int visitThen(int node, int calls, boolean scanning) {
            int error = visit(grammar.left[node], calls, scanning);
            return error == OK ? visit(grammar.right[node], calls, scanning) : error;
        }

        private int visitOr(int node, int calls, boolean scanning) {
            int choice = choose(node, calls, scanning);
            if (choice == TIRED) {
                return TIRED;
            }
            int part = choice == CHOSEN ? grammar.left[node] : grammar.right[node];
            return visit(part, calls, scanning);
        }

        private int visitMaybe(int node, int calls, boolean scanning) {
            int choice = choose(node, calls, scanning);
            if (choice == TIRED) {
                return TIRED;
            }
            return choice == CHOSEN ? visit(grammar.left[node], calls, scanning) : OK;
        }

        private int visitMany(int node, int calls, boolean scanning) {
            // Each round counts a step at least, so that TIRED comes before the bound does.
            for (int round = 0; round <= MAX_STEPS; round++) {
                int choice = choose(node, calls, scanning);
                if (choice == TIRED) {
                    return TIRED;
                }
                if (choice == PASSED_BY) {
                    return OK;
                }
                int error = visit(grammar.left[node], calls, scanning);
                if (error != OK) {
                    return error;
                }
            }
            return TIRED;
        }

        private int visitNamed(int node, int calls, boolean scanning) {
            int part = grammar.right[node];
            if (scanning) {
                return visit(part, calls, true);
            }
            if (forest.isFull()) {
                return LARGE;
            }
            int outer = forest.openTree(grammar.left[node], place);
            int error = visit(part, calls, false);
            forest.closeTree(outer);
            return error;
        }

        /** Whether the first operand of an OR, MAYBE or MANY is CHOSEN or PASSED_BY; TIRED if finding out was too much. */
        private int choose(int node, int calls, boolean scanning) {
            int operand = grammar.left[node];
            if (!scanning && grammar.kind[operand] == AHEAD) {
                return tryAhead(grammar.left[operand], calls);
            }
            int decider = behindAheads(operand);
            int welcome = grammar.kind[node] == OR ? analysis.start(decider) : analysis.first[decider];
            return (welcome & 1 << input.at(place)) != 0 ? CHOSEN : PASSED_BY;
        }

        private int tryAhead(int node, int calls) {
            int from = place;
            int error = visit(node, calls, true);
            if (error == TIRED) {
                // The place stays where the scan had come to: it is the place of the parse's error.
                return TIRED;
            }
            place = from;
            return error == OK ? CHOSEN : PASSED_BY;
        }

        /** In scanning an AHEAD is chosen like its b, which may be an AHEAD again. */
        private int behindAheads(int node) {
            int decider = node;
            for (int level = 0; level < MAX_LEVEL && grammar.kind[decider] == AHEAD; level++) {
                decider = grammar.right[decider];
            }
            return decider;
        }
    }
}
