import java.util.ArrayList;
import java.util.Arrays;
import java.util.List;
import java.util.Set;
import java.util.TreeSet;

/** The document's words once more, written apart from the program, with the Java library and no care for speed. */
final class Model {
    private static final int END = 10;

    private record Node(int kind, int a, int b, int level) {
        boolean aIsNode() {
            return Set.of(2, 3, 4, 5, 7).contains(kind);
        }

        boolean bIsNode() {
            return Set.of(2, 3, 7, 8).contains(kind);
        }
    }

    private static final class Tree {
        int label;
        int parts;
        int place;
    }

    private static final class Stop extends RuntimeException {
        private static final long serialVersionUID = 1;
        final int error;

        Stop(int error) {
            this.error = error;
        }
    }

    private final List<Node> nodes = new ArrayList<>();
    private final int[] rules = new int[8];
    private final List<Integer> input = new ArrayList<>();

    private boolean compiled;
    private int[] kept;
    private int root;
    private Set<Integer> used = new TreeSet<>();
    private boolean[] empty;
    private List<Set<Integer>> first;
    private List<Set<Integer>> next;

    private List<Tree> trees = new ArrayList<>();
    private List<Tree> open = new ArrayList<>();
    private int here;
    private int place = ParserGenerator.NONE;
    private int due = ParserGenerator.NONE;
    private int steps;

    Model() {
        Arrays.fill(rules, -1);
    }

    int node(int kind, int a, int b) {
        if (kind < 0 || kind > 8) {
            return ParserGenerator.REFUSED;
        }
        Node bare = new Node(kind, a, b, 0);
        int most = switch (kind) {
            case 0 -> 9;
            case 1 -> 7;
            case 6 -> Integer.MAX_VALUE;
            case 8 -> 15;
            default -> nodes.size() - 1;
        };
        if (kind != 6 && (a < 0 || a > most) || bare.bIsNode() && (b < 0 || b >= nodes.size())) {
            return ParserGenerator.REFUSED;
        }
        int level = 1;
        if (bare.aIsNode()) {
            level = Math.max(level, nodes.get(a).level + 1);
        }
        if (bare.bIsNode()) {
            level = Math.max(level, nodes.get(b).level + 1);
        }
        if (level >= 7) {
            return ParserGenerator.REFUSED;
        }
        if (nodes.size() == 60) {
            return ParserGenerator.FULL;
        }
        nodes.add(new Node(kind, a, b, level));
        return nodes.size() - 1;
    }

    int rule(int r, int node) {
        if (r < 0 || r > 7 || node < 0 || node >= nodes.size()) {
            return ParserGenerator.REFUSED;
        }
        rules[r] = node;
        return 0;
    }

    int compile(int r) {
        if (r < 0 || r > 7) {
            return ParserGenerator.REFUSED;
        }
        compiled = false;
        if (rules[r] < 0) {
            return ParserGenerator.UNDEFINED;
        }
        kept = rules.clone();
        root = rules[r];
        used = new TreeSet<>();
        boolean lost = !collect(root);
        if (lost) {
            return ParserGenerator.UNDEFINED;
        }
        findEmpty();
        Set<Integer> reached = new TreeSet<>(Set.of(r));
        used.stream().map(nodes::get).filter(n -> n.kind == 1).forEach(n -> reached.add(n.a));
        for (int rule : reached) {
            Set<Integer> called = new TreeSet<>();
            comesTo(kept[rule], called);
            if (called.contains(rule)) {
                return ParserGenerator.RECURSIVE;
            }
        }
        if (used.stream().map(nodes::get).anyMatch(n -> n.kind == 5 && empty[n.a])) {
            return ParserGenerator.ENDLESS;
        }
        findFirst();
        findNext();
        compiled = true;
        return used.size();
    }

    private boolean collect(int at) {
        if (!used.add(at)) {
            return true;
        }
        Node n = nodes.get(at);
        boolean found = true;
        if (n.kind == 1) {
            found = kept[n.a] >= 0 && collect(kept[n.a]);
        }
        if (n.aIsNode()) {
            found &= collect(n.a);
        }
        if (n.bIsNode()) {
            found &= collect(n.b);
        }
        return found;
    }

    private void findEmpty() {
        empty = new boolean[60];
        for (int round = 0; round < 70; round++) {
            for (int at : used) {
                Node n = nodes.get(at);
                empty[at] = switch (n.kind) {
                    case 4, 5, 6 -> true;
                    case 2 -> empty[n.a] && empty[n.b];
                    case 3 -> empty[n.a] || empty[n.b];
                    case 1 -> empty[kept[n.a]];
                    case 7, 8 -> empty[n.b];
                    default -> false;
                };
            }
        }
    }

    private void comesTo(int at, Set<Integer> called) {
        Node n = nodes.get(at);
        switch (n.kind) {
            case 1 -> {
                if (called.add(n.a)) {
                    comesTo(kept[n.a], called);
                }
            }
            case 2 -> {
                comesTo(n.a, called);
                if (empty[n.a]) {
                    comesTo(n.b, called);
                }
            }
            case 3 -> {
                comesTo(n.a, called);
                comesTo(n.b, called);
            }
            case 4, 5 -> comesTo(n.a, called);
            case 7, 8 -> comesTo(n.b, called);
            default -> { }
        }
    }

    private static List<Set<Integer>> emptySets() {
        List<Set<Integer>> sets = new ArrayList<>();
        for (int i = 0; i < 60; i++) {
            sets.add(new TreeSet<>());
        }
        return sets;
    }

    private void findFirst() {
        first = emptySets();
        for (int at : used) {
            Set<Integer> found = new TreeSet<>();
            firstOf(at, found);
            first.set(at, found);
        }
    }

    // Ends because nothing comes to itself: that was tested before.
    private void firstOf(int at, Set<Integer> found) {
        Node n = nodes.get(at);
        switch (n.kind) {
            case 0 -> found.add(n.a);
            case 1 -> firstOf(kept[n.a], found);
            case 2 -> {
                firstOf(n.a, found);
                if (empty[n.a]) {
                    firstOf(n.b, found);
                }
            }
            case 3 -> {
                firstOf(n.a, found);
                firstOf(n.b, found);
            }
            case 4, 5 -> firstOf(n.a, found);
            case 7, 8 -> firstOf(n.b, found);
            default -> { }
        }
    }

    private void findNext() {
        next = emptySets();
        next.get(root).add(END);
        boolean more = true;
        while (more) {
            more = false;
            for (int at : used) {
                Node n = nodes.get(at);
                Set<Integer> mine = Set.copyOf(next.get(at));
                if (n.kind == 1) {
                    more |= next.get(kept[n.a]).addAll(mine);
                }
                if (n.bIsNode()) {
                    more |= next.get(n.b).addAll(mine);
                }
                if (n.kind == 3 || n.kind == 4 || n.kind == 5 || n.kind == 2 && empty[n.b]) {
                    more |= next.get(n.a).addAll(mine);
                }
                if (n.kind == 5) {
                    more |= next.get(n.a).addAll(first.get(n.a));
                }
                if (n.kind == 2) {
                    more |= next.get(n.a).addAll(first.get(n.b));
                }
            }
        }
    }

    private Set<Integer> start(int at) {
        Set<Integer> set = new TreeSet<>(first.get(at));
        if (empty[at]) {
            set.addAll(next.get(at));
        }
        return set;
    }

    private static int sum(Set<Integer> set) {
        return set.stream().mapToInt(t -> (int) Math.pow(2, t)).sum();
    }

    private boolean known(int node) {
        return compiled && used.contains(node);
    }

    int empty(int node) {
        return !known(node) ? ParserGenerator.REFUSED : empty[node] ? 1 : 0;
    }

    int first(int node) {
        return known(node) ? sum(first.get(node)) : ParserGenerator.REFUSED;
    }

    int next(int node) {
        return known(node) ? sum(next.get(node)) : ParserGenerator.REFUSED;
    }

    int clash(int node) {
        if (!known(node)) {
            return ParserGenerator.REFUSED;
        }
        Node n = nodes.get(node);
        Set<Integer> both = new TreeSet<>();
        if (n.kind == 3) {
            both = start(n.a);
            both.retainAll(start(n.b));
        } else if (n.kind == 4 || n.kind == 5) {
            both.addAll(first.get(n.a));
            both.retainAll(next.get(node));
        }
        return sum(both);
    }

    int feed(int token) {
        if (token < 0 || token > 9) {
            return ParserGenerator.REFUSED;
        }
        if (input.size() == 40) {
            return ParserGenerator.FULL;
        }
        input.add(token);
        return input.size();
    }

    int wipe() {
        int length = input.size();
        input.clear();
        return length;
    }

    int parse() {
        if (!compiled) {
            return ParserGenerator.REFUSED;
        }
        trees = new ArrayList<>();
        open = new ArrayList<>();
        here = 0;
        steps = 0;
        due = ParserGenerator.NONE;
        int error = 0;
        try {
            go(root, 0, false);
            if (here < input.size()) {
                due = END;
                throw new Stop(ParserGenerator.MISMATCH);
            }
        } catch (Stop stop) {
            error = stop.error;
            trees.clear();
        }
        place = here;
        return error;
    }

    private int seen() {
        return here < input.size() ? input.get(here) : END;
    }

    private void go(int at, int calls, boolean scan) {
        if (steps == 1500) {
            throw new Stop(ParserGenerator.TIRED);
        }
        steps++;
        Node n = nodes.get(at);
        switch (n.kind) {
            case 0 -> take(n.a, scan);
            case 1 -> {
                if (calls == 6) {
                    throw new Stop(ParserGenerator.DEEP);
                }
                go(kept[n.a], calls + 1, scan);
            }
            case 2 -> {
                go(n.a, calls, scan);
                go(n.b, calls, scan);
            }
            case 3 -> go(chosen(n, n.a, calls, scan) ? n.a : n.b, calls, scan);
            case 4 -> {
                if (chosen(n, n.a, calls, scan)) {
                    go(n.a, calls, scan);
                }
            }
            case 5 -> {
                while (chosen(n, n.a, calls, scan)) {
                    go(n.a, calls, scan);
                }
            }
            case 7 -> go(n.b, calls, scan);
            case 8 -> name(n, calls, scan);
            default -> { }
        }
    }

    private void take(int token, boolean scan) {
        if (seen() != token) {
            due = scan ? due : token;
            throw new Stop(ParserGenerator.MISMATCH);
        }
        if (!scan) {
            begin(16 + token);
        }
        here++;
    }

    private void name(Node n, int calls, boolean scan) {
        if (scan) {
            go(n.b, calls, true);
            return;
        }
        open.add(begin(n.a));
        go(n.b, calls, false);
        open.remove(open.size() - 1);
    }

    private Tree begin(int label) {
        if (trees.size() == 90) {
            throw new Stop(ParserGenerator.LARGE);
        }
        Tree tree = new Tree();
        tree.label = label;
        tree.place = here;
        if (!open.isEmpty()) {
            open.get(open.size() - 1).parts++;
        }
        trees.add(tree);
        return tree;
    }

    private boolean chosen(Node parent, int at, int calls, boolean scan) {
        Node n = nodes.get(at);
        if (n.kind == 7) {
            return scan ? chosen(parent, n.b, calls, true) : scanned(n.a, calls);
        }
        return (parent.kind == 3 ? start(at) : first.get(at)).contains(seen());
    }

    private boolean scanned(int at, int calls) {
        int from = here;
        try {
            go(at, calls, true);
        } catch (Stop stop) {
            if (stop.error == ParserGenerator.TIRED) {
                throw stop;
            }
            here = from;
            return false;
        }
        here = from;
        return true;
    }

    int place() {
        return place;
    }

    int due() {
        return due;
    }

    int tree(int i, int what) {
        if (what < 0 || what > 2) {
            return ParserGenerator.REFUSED;
        }
        if (i < 0 || i >= trees.size()) {
            return ParserGenerator.NONE;
        }
        Tree tree = trees.get(i);
        return what == 0 ? tree.label : what == 1 ? tree.parts : tree.place;
    }

    int count(int what) {
        return switch (what) {
            case 0 -> nodes.size();
            case 1 -> input.size();
            case 2 -> trees.size();
            case 3 -> steps;
            case 4 -> compiled ? (int) used.stream().filter(n -> clash(n) != 0).count() : 0;
            case 5 -> compiled ? used.size() : 0;
            default -> ParserGenerator.REFUSED;
        };
    }
}
