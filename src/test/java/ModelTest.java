import java.util.Map;
import java.util.TreeMap;

/** All promises: rows of calls, always the same ones, on an object and on the model, which must answer alike. */
public final class ModelTest {
    private static final int RUNS = 30_000;
    private static final int MOST_CALLS = 512;

    private static final Check CHECK = new Check();
    private static final Map<Integer, Integer> PARSES = new TreeMap<>();
    private static final Map<Integer, Integer> COMPILES = new TreeMap<>();

    private final ParserGenerator object = new ParserGenerator();
    private final Model model = new Model();
    private final int run;
    private long state;
    private int calls;
    private int lowestCall;

    private ModelTest(int run) {
        this.run = run;
        this.state = 0x9E3779B97F4A7C15L * (run + 1);
    }

    public static void main(String[] args) {
        for (int run = 0; run < RUNS; run++) {
            new ModelTest(run).drive();
        }
        // A run of calls that never comes to an error would say nothing about it.
        for (int error : new int[] {0, -6, -7, -8, -9}) {
            CHECK.holds("parses that answer " + error, PARSES.getOrDefault(error, 0) > 20);
        }
        for (int error : new int[] {-3, -4, -5}) {
            CHECK.holds("compiles that answer " + error, COMPILES.getOrDefault(error, 0) > 20);
        }
        CHECK.end("ModelTest");
    }

    private int upTo(int bound) {
        state = state * 6364136223846793005L + 1442695040888963407L;
        return (int) ((state >>> 33) % bound);
    }

    private int same(String call, int got, int due) {
        calls++;
        CHECK.same("run " + run + ", call " + calls + ": " + call, got, due);
        return got;
    }

    private void drive() {
        int tokens = 1 + upTo(3);
        if (run % 3 == 0) {
            build(tokens, 8 + upTo(50));
        } else if (run % 3 == 1) {
            buildInLayers(tokens);
        } else {
            tokens = 1;
            buildSlow();
        }
        while (calls < MOST_CALLS - 120) {
            int act = upTo(10);
            if (act == 0) {
                oddCall();
            } else if (act == 1) {
                makeNode(tokens);
            } else if (act == 2) {
                setRule();
            } else if (act <= 4) {
                compile(upTo(8));
            } else {
                input(tokens);
                parse();
            }
        }
        ask();
    }

    private void build(int tokens, int size) {
        for (int i = 0; i < size; i++) {
            makeNode(tokens);
        }
        for (int r = 0; r < 8; r++) {
            if (upTo(8) != 0) {
                setRule();
            }
        }
        for (int r = 0; r < 8 && object.count(5) == 0; r++) {
            calls++;
            compile(r);
        }
    }

    /** Rules that call later ones only, mostly: these compile, nest, and take many steps. */
    private void buildInLayers(int tokens) {
        for (int r = 7; r >= 0; r--) {
            lowestCall = upTo(6) == 0 ? 0 : Math.min(r + 1, 7);
            for (int i = 0; i < 7; i++) {
                makeNode(tokens);
            }
            int newest = model.count(0) - 1;
            same("rule(" + r + ", " + newest + ")", object.rule(r, newest), model.rule(r, newest));
        }
        lowestCall = 0;
        compile(upTo(3));
    }

    /** A rule that takes its tokens slowly, and tries some of them ahead: these come near the limit of steps. */
    private void buildSlow() {
        int idle = make(6, 0, 0);
        int levels = 1 + upTo(5);
        for (int i = 0; i < levels; i++) {
            idle = make(2, idle, idle);
        }
        same("rule(7, idle)", object.rule(7, idle), model.rule(7, idle));
        int slow = make(2, make(1, 7, 0), make(upTo(2) * 8, 0, make(0, 0, 0)));
        same("rule(6, slow)", object.rule(6, slow), model.rule(6, slow));
        int item = make(1, 6, 0);
        int tried = upTo(2) == 0 ? make(5, item, 0) : make(2, item, make(5, item, 0));
        int ahead = make(7, tried, upTo(2) == 0 ? item : make(8, 1, item));
        int choice = make(3 + upTo(3), ahead, item);
        int root = upTo(2) == 0 ? choice : make(2, choice, make(5, item, 0));
        same("rule(0, root)", object.rule(0, root), model.rule(0, root));
        compile(0);
    }

    private int make(int kind, int a, int b) {
        return same("node(" + kind + ", " + a + ", " + b + ")", object.node(kind, a, b), model.node(kind, a, b));
    }

    private int earlier() {
        int size = Math.max(1, model.count(0));
        // The newest nodes are the largest, and make deeper grammars.
        return upTo(2) == 0 ? upTo(size) : size - 1 - upTo(Math.min(size, 6));
    }

    private void makeNode(int tokens) {
        int kind = new int[] {0, 0, 0, 1, 2, 2, 2, 3, 3, 4, 5, 6, 7, 7, 8, 8}[upTo(16)];
        int a = earlier();
        if (kind == 0) {
            a = upTo(tokens);
        } else if (kind == 1) {
            a = lowestCall + upTo(Math.min(8 - lowestCall, 2 + upTo(7)));
        } else if (kind == 8) {
            a = upTo(16);
        }
        int b = earlier();
        make(kind, a, b);
    }

    private void setRule() {
        int r = upTo(8);
        int node = earlier();
        same("rule(" + r + ", " + node + ")", object.rule(r, node), model.rule(r, node));
    }

    private void compile(int r) {
        int answer = same("compile(" + r + ")", object.compile(r), model.compile(r));
        COMPILES.merge(Math.min(answer, 0), 1, Integer::sum);
    }

    private void input(int tokens) {
        int more = upTo(12);
        if (upTo(3) != 0) {
            same("wipe()", object.wipe(), model.wipe());
        }
        if (upTo(4) == 0) {
            more = 40;
        }
        for (int i = 0; i < more && calls < MOST_CALLS - 140; i++) {
            int token = upTo(tokens);
            same("feed(" + token + ")", object.feed(token), model.feed(token));
        }
    }

    private void parse() {
        int answer = same("parse()", object.parse(), model.parse());
        PARSES.merge(answer, 1, Integer::sum);
        same("place()", object.place(), model.place());
        same("due()", object.due(), model.due());
        same("count(2)", object.count(2), model.count(2));
        same("count(3)", object.count(3), model.count(3));
        int i = upTo(12);
        for (int what = 0; what < 3; what++) {
            same("tree(" + i + ", " + what + ")", object.tree(i, what), model.tree(i, what));
        }
    }

    private void oddCall() {
        int x = upTo(80) - 10;
        int y = upTo(80) - 10;
        int kind = upTo(12) - 1;
        switch (upTo(8)) {
            case 0 -> same("node(" + kind + ", " + x + ", " + y + ")", object.node(kind, x, y), model.node(kind, x, y));
            case 1 -> same("rule(" + kind + ", " + x + ")", object.rule(kind, x), model.rule(kind, x));
            case 2 -> same("compile(" + x + ")", object.compile(x), model.compile(x));
            case 3 -> same("feed(" + kind + ")", object.feed(kind), model.feed(kind));
            case 4 -> same("tree(" + x + ", " + kind + ")", object.tree(x, kind), model.tree(x, kind));
            case 5 -> same("count(" + kind + ")", object.count(kind), model.count(kind));
            case 6 -> same("clash(" + x + ")", object.clash(x), model.clash(x));
            default -> same("empty(" + x + ")", object.empty(x), model.empty(x));
        }
    }

    private void ask() {
        for (int what = 0; what < 6; what++) {
            same("count(" + what + ")", object.count(what), model.count(what));
        }
        int from = upTo(40);
        for (int node = from; node < from + 20; node++) {
            same("empty(" + node + ")", object.empty(node), model.empty(node));
            same("first(" + node + ")", object.first(node), model.first(node));
            same("next(" + node + ")", object.next(node), model.next(node));
            same("clash(" + node + ")", object.clash(node), model.clash(node));
        }
        CHECK.holds("run " + run + " has at most 512 calls", calls <= MOST_CALLS);
    }
}
