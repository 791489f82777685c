import java.util.ArrayList;
import java.util.LinkedHashMap;
import java.util.List;
import java.util.Map;
import java.util.function.Consumer;
import java.util.function.ToIntFunction;

/** "A refused call changes nothing. Numbers out of their ranges are REFUSED in every call.", in all states and calls. */
public final class RefusedBoundaryTest {
    private static final int REFUSED = ParserGenerator.REFUSED;
    private static final int FULL = ParserGenerator.FULL;
    private static final int NODES = 12;

    private static final Sentences DOC = new Sentences();

    public static void main(String[] args) {
        numbersOutOfTheirRanges();
        refusedCallChangesNothing();
        fullCallChangesNothing();
        refusedParseChangesNothing();
        DOC.end("RefusedBoundaryTest");
    }

    /** Twelve nodes, the last one of LEVEL 6; rule 0 is good, rule 1 calls what is not defined. */
    private static void grammar(ParserGenerator g) {
        g.node(0, 1, 0);
        g.node(0, 2, 0);
        g.node(4, 1, 0);
        g.node(2, 0, 2);
        g.node(8, 3, 3);
        g.node(1, 2, 0);
        g.node(6, 0, 0);
        for (int i = 0; i < 5; i++) {
            g.node(2, 6 + i, 6 + i);
        }
        g.rule(0, 4);
        g.rule(1, 5);
    }

    private static void feed(ParserGenerator g, int... tokens) {
        for (int token : tokens) {
            g.feed(token);
        }
    }

    private static Map<String, Consumer<ParserGenerator>> states() {
        Map<String, Consumer<ParserGenerator>> states = new LinkedHashMap<>();
        states.put("nodes and rules", g -> grammar(g));
        states.put("compiled", g -> {
            grammar(g);
            g.compile(0);
            feed(g, 1, 2);
        });
        states.put("parsed", g -> {
            grammar(g);
            g.compile(0);
            feed(g, 1, 2);
            g.parse();
        });
        states.put("parsed with an error", g -> {
            grammar(g);
            g.compile(0);
            feed(g, 1, 2, 2);
            g.parse();
        });
        states.put("compiled no more", g -> {
            grammar(g);
            g.compile(0);
            feed(g, 1, 2);
            g.parse();
            g.compile(1);
        });
        states.put("compiled, rules changed", g -> {
            grammar(g);
            g.compile(0);
            g.rule(0, 1);
            g.rule(2, 0);
            feed(g, 1);
            g.parse();
        });
        return states;
    }

    /** Calls with one number out of its range, or with operands that do not fit, for a grammar of twelve nodes. */
    private static Map<String, ToIntFunction<ParserGenerator>> refusedCalls() {
        Map<String, ToIntFunction<ParserGenerator>> calls = new LinkedHashMap<>();
        for (int n : Numbers.outside(9)) {
            calls.put("node(" + n + ", 0, 0)", g -> g.node(n, 0, 0));
        }
        for (int kind : new int[] {0, 1, 2, 3, 4, 5, 7, 8}) {
            for (int n : Numbers.outside(61)) {
                calls.put("node(" + kind + ", " + n + ", 0)", g -> g.node(kind, n, 0));
            }
        }
        for (int kind : new int[] {2, 3, 7, 8}) {
            for (int n : Numbers.outside(61)) {
                calls.put("node(" + kind + ", 0, " + n + ")", g -> g.node(kind, 0, n));
            }
            calls.put("node(" + kind + ", 0, 11)", g -> g.node(kind, 0, 11));
        }
        for (int kind : new int[] {2, 3, 4, 5, 7}) {
            calls.put("node(" + kind + ", 11, 0)", g -> g.node(kind, 11, 0));
        }
        calls.put("node(0, 10, 0)", g -> g.node(0, 10, 0));
        calls.put("node(1, 8, 0)", g -> g.node(1, 8, 0));
        calls.put("node(8, 16, 0)", g -> g.node(8, 16, 0));
        for (int n : Numbers.outside(8)) {
            calls.put("rule(" + n + ", 0)", g -> g.rule(n, 0));
            calls.put("compile(" + n + ")", g -> g.compile(n));
        }
        for (int n : Numbers.outside(61)) {
            for (int r = 0; r <= 7; r += 7) {
                int rule = r;
                calls.put("rule(" + r + ", " + n + ")", g -> g.rule(rule, n));
            }
            calls.put("empty(" + n + ")", g -> g.empty(n));
            calls.put("first(" + n + ")", g -> g.first(n));
            calls.put("next(" + n + ")", g -> g.next(n));
            calls.put("clash(" + n + ")", g -> g.clash(n));
        }
        for (int n : Numbers.outside(10)) {
            calls.put("feed(" + n + ")", g -> g.feed(n));
        }
        for (int n : Numbers.outside(3)) {
            calls.put("tree(0, " + n + ")", g -> g.tree(0, n));
            calls.put("tree(99, " + n + ")", g -> g.tree(99, n));
        }
        for (int n : Numbers.outside(6)) {
            calls.put("count(" + n + ")", g -> g.count(n));
        }
        return calls;
    }

    /** Calls that are refused since there are just twelve nodes. */
    private static Map<String, ToIntFunction<ParserGenerator>> refusedForTwelveNodes() {
        Map<String, ToIntFunction<ParserGenerator>> calls = new LinkedHashMap<>();
        for (int kind : new int[] {2, 3, 4, 5, 7}) {
            calls.put("node(" + kind + ", 12, 0)", g -> g.node(kind, NODES, 0));
        }
        for (int kind : new int[] {2, 3, 7, 8}) {
            calls.put("node(" + kind + ", 0, 12)", g -> g.node(kind, 0, NODES));
        }
        calls.put("rule(0, 12)", g -> g.rule(0, NODES));
        calls.put("empty(12)", g -> g.empty(NODES));
        calls.put("first(11)", g -> g.first(NODES - 1));
        calls.put("next(11)", g -> g.next(NODES - 1));
        calls.put("clash(12)", g -> g.clash(NODES));
        return calls;
    }

    private static ParserGenerator inState(Consumer<ParserGenerator> state) {
        ParserGenerator g = new ParserGenerator();
        state.accept(g);
        return g;
    }

    /** All that can be asked of an object, and then what it does with more calls. */
    private static List<Integer> answers(ParserGenerator g) {
        List<Integer> all = new ArrayList<>();
        ask(g, all);
        all.add(g.parse());
        ask(g, all);
        all.add(g.feed(2));
        all.add(g.wipe());
        all.add(g.feed(1));
        all.add(g.parse());
        all.add(g.place());
        all.add(g.due());
        for (int r = 0; r <= 7; r++) {
            all.add(g.compile(r));
            all.add(g.count(5));
        }
        all.add(g.node(2, 0, 1));
        all.add(g.rule(2, g.count(0) - 1));
        all.add(g.compile(1));
        all.add(g.compile(2));
        all.add(g.first(g.count(0) - 1));
        return all;
    }

    private static void ask(ParserGenerator g, List<Integer> all) {
        for (int what = 0; what <= 5; what++) {
            all.add(g.count(what));
        }
        all.add(g.place());
        all.add(g.due());
        for (int i = 0; i < 5; i++) {
            for (int what = 0; what <= 2; what++) {
                all.add(g.tree(i, what));
            }
        }
        for (int node = 0; node <= NODES; node++) {
            all.add(g.empty(node));
            all.add(g.first(node));
            all.add(g.next(node));
            all.add(g.clash(node));
        }
    }

    /** The object on which the call was made must answer all as one does on which it was not. */
    private static void changesNothing(String what, Consumer<ParserGenerator> state, ToIntFunction<ParserGenerator> call,
            int due) {
        ParserGenerator g = inState(state);
        DOC.same(what, call.applyAsInt(g), due);
        List<Integer> got = answers(g);
        List<Integer> expected = answers(inState(state));
        DOC.same(what + ": how many answers", got.size(), expected.size());
        for (int i = 0; i < got.size(); i++) {
            DOC.same(what + ": the answer " + i + " behind it", got.get(i), expected.get(i));
        }
    }

    private static void numbersOutOfTheirRanges() {
        DOC.sentence("Terms", "Numbers out of their ranges are REFUSED in every call.");
        Map<String, Consumer<ParserGenerator>> states = states();
        states.put("a new object", g -> { });
        states.put("full", RefusedBoundaryTest::fill);
        refusedCalls().forEach((name, call) ->
            states.forEach((state, make) -> DOC.same(state + ", " + name, call.applyAsInt(inState(make)), REFUSED)));
    }

    private static void refusedCallChangesNothing() {
        DOC.sentence("Terms", "A refused call changes nothing.");
        Map<String, ToIntFunction<ParserGenerator>> calls = refusedCalls();
        calls.putAll(refusedForTwelveNodes());
        states().forEach((state, make) ->
            calls.forEach((name, call) -> changesNothing(state + ", " + name, make, call, REFUSED)));
    }

    private static void fill(ParserGenerator g) {
        grammar(g);
        while (g.count(0) < 60) {
            g.node(0, 3, 0);
        }
        g.compile(0);
        for (int i = 0; i < 40; i++) {
            g.feed(i == 0 ? 1 : 2);
        }
        g.parse();
    }

    private static void fullCallChangesNothing() {
        DOC.sentence("Promise 2: node", "60 nodes: FULL.");
        for (int kind = 0; kind <= 8; kind++) {
            int newKind = kind;
            changesNothing("full, kind " + kind, RefusedBoundaryTest::fill, g -> g.node(newKind, 1, 1), FULL);
        }
        DOC.sentence("Promise 9: feed", "40 there: FULL.");
        for (int token = 0; token <= 9; token++) {
            int newToken = token;
            changesNothing("full, token " + token, RefusedBoundaryTest::fill, g -> g.feed(newToken), FULL);
        }
    }

    private static void refusedParseChangesNothing() {
        DOC.sentence("Promise 11: parse", "Nothing compiled: REFUSED.");
        Map<String, Consumer<ParserGenerator>> states = states();
        for (String state : new String[] {"nodes and rules", "compiled no more"}) {
            changesNothing(state, states.get(state), g -> g.parse(), REFUSED);
        }
    }
}
