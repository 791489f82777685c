/** The sentences of the promises 1 to 4 (a new object, node, rule, compile) that name a boundary case. */
public final class Promises1To4BoundaryTest {
    private static final int REFUSED = ParserGenerator.REFUSED;
    private static final int FULL = ParserGenerator.FULL;
    private static final int UNDEFINED = ParserGenerator.UNDEFINED;
    private static final int RECURSIVE = ParserGenerator.RECURSIVE;
    private static final int ENDLESS = ParserGenerator.ENDLESS;
    private static final int MISMATCH = ParserGenerator.MISMATCH;
    private static final int NONE = ParserGenerator.NONE;
    private static final int END = 10;

    private static final Sentences DOC = new Sentences();

    public static void main(String[] args) {
        promise1NoNodesRulesInputNothingCompiled();
        promise2MakesANodeItsNumber();
        promise2Kind0To8();
        promise2OperandOutOfItsRangeOrNoNode();
        promise2OperandThatTheKindDoesNotName();
        promise2LevelWouldBe7();
        promise2SixtyNodesFull();
        promise3RuleR0To7BecomesTheNode();
        promise3NoSuchNode();
        promise3WhatIsCompiledStays();
        promise4RuleR0To7();
        promise4MustBeDefined();
        promise4BadAndNothingIsCompiled();
        promise4HowManyNodesAreUsed();
        promise4RulesAreKept();
        DOC.end("Promises1To4BoundaryTest");
    }

    private static void promise1NoNodesRulesInputNothingCompiled() {
        DOC.sentence("Promise 1: A new object", "No nodes, rules, input; nothing compiled.");
        ParserGenerator g = new ParserGenerator();
        DOC.same("nodes", g.count(0), 0);
        DOC.same("input", g.count(1), 0);
        DOC.same("trees", g.count(2), 0);
        DOC.same("steps", g.count(3), 0);
        DOC.same("clashes", g.count(4), 0);
        DOC.same("used", g.count(5), 0);
        DOC.same("parse", g.parse(), REFUSED);
        DOC.same("place", g.place(), NONE);
        DOC.same("due", g.due(), NONE);
        for (int what = 0; what <= 2; what++) {
            DOC.same("tree", g.tree(0, what), NONE);
        }
        DOC.same("empty", g.empty(0), REFUSED);
        DOC.same("first", g.first(0), REFUSED);
        DOC.same("next", g.next(0), REFUSED);
        DOC.same("clash", g.clash(0), REFUSED);
        DOC.same("wipe", g.wipe(), 0);
        for (int r = 0; r <= 7; r++) {
            DOC.same("a rule of a node that is not there", g.rule(r, 0), REFUSED);
            DOC.same("a rule that is not defined", g.compile(r), UNDEFINED);
        }
        objectsAreApart();
    }

    private static void objectsAreApart() {
        Bench old = new Bench();
        old.compileAs(0, old.named(1, old.token(1)));
        old.parse(1);
        ParserGenerator g = new ParserGenerator();
        for (int what = 0; what <= 5; what++) {
            DOC.same("beside another object: count(" + what + ")", g.count(what), 0);
        }
        DOC.same("beside another object: compile(0)", g.compile(0), UNDEFINED);
        DOC.same("the other object stays", old.on.tree(0, 0), 1);
        DOC.same("the other object parses", old.on.parse(), 0);
    }

    private static void promise2MakesANodeItsNumber() {
        DOC.sentence("Promise 2: node", "Makes a node: its number.");
        ParserGenerator g = new ParserGenerator();
        DOC.same("the first", g.node(0, 0, 0), 0);
        DOC.same("one like it is another", g.node(0, 0, 0), 1);
        DOC.same("how many", g.count(0), 2);
        for (int i = 2; i < 60; i++) {
            DOC.same("node " + i, g.node(2, 0, 1), i);
        }
        DOC.same("sixty", g.count(0), 60);
    }

    private static void promise2Kind0To8() {
        DOC.sentence("Promise 2: node", "kind 0 .. 8;");
        ParserGenerator g = new ParserGenerator();
        g.node(6, 0, 0);
        for (int kind = 0; kind <= 8; kind++) {
            DOC.same("kind " + kind, g.node(kind, 0, 0), kind + 1);
        }
        for (int kind : Numbers.outside(9)) {
            DOC.same("kind " + kind, g.node(kind, 0, 0), REFUSED);
        }
        DOC.same("refused kinds make nothing", g.count(0), 10);
    }

    private static void promise2OperandOutOfItsRangeOrNoNode() {
        DOC.sentence("Promise 2: node", "an operand that the kind names out of its range or no node, or the LEVEL would be "
            + "7: REFUSED.");
        int[] bounds = {10, 8, 2, 2, 2, 2, 0, 2, 16};
        for (int kind : new int[] {0, 1, 2, 3, 4, 5, 7, 8}) {
            ParserGenerator g = twoNodes();
            for (int a : Numbers.outside(bounds[kind])) {
                DOC.same("kind " + kind + ", a " + a, g.node(kind, a, 0), REFUSED);
            }
            DOC.same("nothing was made", g.count(0), 2);
            DOC.same("kind " + kind + ", the least a", g.node(kind, 0, 0), 2);
            DOC.same("kind " + kind + ", the greatest a", g.node(kind, bounds[kind] - 1, 0), 3);
        }
        for (int kind : new int[] {2, 3, 7, 8}) {
            ParserGenerator g = twoNodes();
            for (int b : Numbers.outside(2)) {
                DOC.same("kind " + kind + ", b " + b, g.node(kind, 0, b), REFUSED);
            }
            DOC.same("nothing was made", g.count(0), 2);
            DOC.same("kind " + kind + ", both are no nodes", g.node(kind, 16, 2), REFUSED);
            DOC.same("kind " + kind + ", the greatest b", g.node(kind, 0, 1), 2);
            DOC.same("kind " + kind + ", the new node itself", g.node(kind, 0, 2), 3);
        }
    }

    private static ParserGenerator twoNodes() {
        ParserGenerator g = new ParserGenerator();
        g.node(6, 0, 0);
        g.node(6, 0, 0);
        return g;
    }

    private static void promise2OperandThatTheKindDoesNotName() {
        DOC.sentence("Promise 2: node", "an operand that the kind names");
        for (int odd : Numbers.outside(16)) {
            ParserGenerator g = new ParserGenerator();
            DOC.same("TOKEN, b " + odd, g.node(0, 1, odd), 0);
            DOC.same("CALL, b " + odd, g.node(1, 1, odd), 1);
            DOC.same("MAYBE, b " + odd, g.node(4, 0, odd), 2);
            DOC.same("MANY, b " + odd, g.node(5, 0, odd), 3);
            DOC.same("NOTHING, a and b " + odd, g.node(6, odd, odd), 4);
            g.rule(1, 2);
            g.node(2, 1, 3);
            g.rule(0, g.node(2, 5, 4));
            DOC.same("they are of use", g.compile(0), 7);
            g.feed(1);
            g.feed(1);
            DOC.same("they parse", g.parse(), 0);
        }
    }

    private static void promise2LevelWouldBe7() {
        DOC.sentence("Promise 2: node", "or the LEVEL would be 7: REFUSED.");
        for (int kind : new int[] {2, 3, 4, 5, 7, 8}) {
            Bench x = new Bench();
            int low = x.token(1);
            int five = x.idle(5);
            int six = x.then(five, low);
            int made = x.on.count(0);
            if (kind != 8) {
                DOC.same("kind " + kind + ", a of level 6", x.on.node(kind, six, low), REFUSED);
                DOC.same("nothing was made", x.on.count(0), made);
                DOC.same("kind " + kind + ", a of level 5", x.on.node(kind, five, low), made++);
            }
            if (kind != 4 && kind != 5) {
                DOC.same("kind " + kind + ", b of level 6", x.on.node(kind, low, six), REFUSED);
                DOC.same("nothing was made", x.on.count(0), made);
                DOC.same("kind " + kind + ", b of level 5", x.on.node(kind, low, five), made);
            }
        }
    }

    private static void promise2SixtyNodesFull() {
        DOC.sentence("Promise 2: node", "60 nodes: FULL.");
        Bench x = new Bench();
        int six = x.idle(6);
        while (x.on.count(0) < 59) {
            x.token(1);
        }
        DOC.same("the 60th", x.token(2), 59);
        for (int kind = 0; kind <= 8; kind++) {
            DOC.same("a 61st of kind " + kind, x.on.node(kind, 0, 0), FULL);
        }
        DOC.same("and again", x.token(2), FULL);
        DOC.same("there are 60", x.on.count(0), 60);
        DOC.same("an operand out of its range is REFUSED even so", x.token(10), REFUSED);
        DOC.same("so is a kind", x.on.node(9, 0, 0), REFUSED);
        DOC.same("so is the node 60", x.maybe(60), REFUSED);
        DOC.same("so is LEVEL 7", x.maybe(six), REFUSED);
        DOC.same("the 60th is what it was", x.compileAs(0, 59), 1);
        DOC.same("the 60th has its token", x.on.first(59), 4);
        DOC.same("the node 60 has none", x.on.first(60), REFUSED);
    }

    private static void promise3RuleR0To7BecomesTheNode() {
        DOC.sentence("Promise 3: rule", "Rule r 0 .. 7 becomes the node: 0.");
        Bench x = new Bench();
        int one = x.token(1);
        int two = x.maybe(one);
        for (int r = 0; r <= 7; r++) {
            DOC.same("rule " + r, x.on.rule(r, one), 0);
            DOC.same("rule " + r + " is the node", x.on.compile(r), 1);
            DOC.same("rule " + r + " again", x.on.rule(r, two), 0);
            DOC.same("rule " + r + " is another node", x.on.compile(r), 2);
            DOC.same("the next rule is not touched", x.on.compile(r + 1), r < 7 ? UNDEFINED : REFUSED);
        }
        for (int r : Numbers.outside(8)) {
            DOC.same("rule " + r, x.on.rule(r, one), REFUSED);
        }
        for (int r = 0; r <= 7; r++) {
            DOC.same("rule " + r + " is as it was", x.on.compile(r), 2);
        }
    }

    private static void promise3NoSuchNode() {
        DOC.sentence("Promise 3: rule", "No such node: REFUSED.");
        ParserGenerator g = new ParserGenerator();
        DOC.same("there are no nodes", g.rule(0, 0), REFUSED);
        g.node(0, 1, 0);
        g.node(4, 0, 0);
        DOC.same("the last node", g.rule(0, 1), 0);
        for (int node : Numbers.outside(2)) {
            DOC.same("node " + node, g.rule(0, node), REFUSED);
            DOC.same("node " + node + " for another rule", g.rule(1, node), REFUSED);
        }
        DOC.same("the rule is as it was", g.compile(0), 2);
        DOC.same("the other is not defined", g.compile(1), UNDEFINED);
        DOC.same("neither rule nor node", g.rule(8, 2), REFUSED);
    }

    private static void promise3WhatIsCompiledStays() {
        DOC.sentence("Promise 3: rule", "What is compiled stays as it is.");
        Bench x = new Bench();
        int one = x.token(1);
        int two = x.token(2);
        int call = x.call(1);
        x.on.rule(1, one);
        x.compileAs(0, call);
        x.on.rule(0, two);
        x.on.rule(1, two);
        DOC.same("the ROOT's node stays", x.on.next(call), 1 << END);
        DOC.same("the called rule stays", x.on.first(call), 2);
        DOC.same("the new node is not USED", x.on.first(two), REFUSED);
        DOC.same("USED nodes stay", x.on.count(5), 2);
        DOC.same("it parses as before", x.parse(1), 0);
        DOC.same("and not otherwise", x.parse(2), MISMATCH);
        DOC.same("1 is due", x.on.due(), 1);
        ParserGenerator g = new ParserGenerator();
        g.node(0, 1, 0);
        g.rule(0, 0);
        DOC.same("where nothing is compiled it stays so", g.parse(), REFUSED);
    }

    private static void promise4RuleR0To7() {
        DOC.sentence("Promise 4: compile", "COMPILES for rule r 0 .. 7");
        Bench x = new Bench();
        int one = x.token(1);
        for (int r = 0; r <= 7; r++) {
            DOC.same("rule " + r, x.compileAs(r, one), 1);
        }
        for (int r : Numbers.outside(8)) {
            DOC.same("rule " + r, x.on.compile(r), REFUSED);
        }
        DOC.same("refused, so what is compiled stays", x.on.count(5), 1);
        DOC.same("and parses", x.parse(1), 0);
    }

    private static void nothingIsCompiled(String why, ParserGenerator g) {
        DOC.same(why + ": parse", g.parse(), REFUSED);
        DOC.same(why + ": empty", g.empty(0), REFUSED);
        DOC.same(why + ": first", g.first(0), REFUSED);
        DOC.same(why + ": next", g.next(0), REFUSED);
        DOC.same(why + ": clash", g.clash(0), REFUSED);
        DOC.same(why + ": clashes", g.count(4), 0);
        DOC.same(why + ": used", g.count(5), 0);
    }

    private static void promise4MustBeDefined() {
        DOC.sentence("Promise 4: compile", "that must be defined (else UNDEFINED, and nothing is compiled then).");
        Bench x = new Bench();
        int one = x.token(1);
        DOC.same("before all", x.on.compile(7), UNDEFINED);
        nothingIsCompiled("before all", x.on);
        DOC.same("defined", x.compileAs(0, x.then(x.maybe(one), one)), 3);
        DOC.same("a clash", x.on.count(4), 1);
        DOC.same("another rule", x.on.compile(1), UNDEFINED);
        nothingIsCompiled("another rule", x.on);
        DOC.same("the defined one again", x.on.compile(0), 3);
        DOC.same("it parses", x.parse(1), MISMATCH);
    }

    private static void promise4BadAndNothingIsCompiled() {
        DOC.sentence("Promise 4: compile", "It is BAD: UNDEFINED, RECURSIVE or ENDLESS, and nothing is compiled then.");
        Bench x = new Bench();
        int one = x.token(1);
        x.on.rule(0, one);
        x.on.rule(1, x.then(one, x.call(7)));
        x.on.rule(2, x.or(one, x.call(2)));
        x.on.rule(3, x.then(one, x.many(x.nothing())));
        int[] errors = {1, UNDEFINED, RECURSIVE, ENDLESS};
        for (int r = 1; r <= 3; r++) {
            DOC.same("a good rule", x.on.compile(0), 1);
            DOC.same("a BAD rule", x.on.compile(r), errors[r]);
            nothingIsCompiled("rule " + r, x.on);
            for (int other = 1; other <= 3; other++) {
                DOC.same("a BAD rule behind a BAD one", x.on.compile(other), errors[other]);
            }
        }
        DOC.same("a good rule behind all", x.on.compile(0), 1);
        DOC.same("nothing of the BAD ones is left", x.on.next(one), 1 << END);
        DOC.same("it parses", x.parse(1), 0);
    }

    private static void promise4HowManyNodesAreUsed() {
        DOC.sentence("Promise 4: compile", "Else how many nodes are USED;");
        Bench x = new Bench();
        int one = x.token(1);
        x.token(2);
        DOC.same("one of two", x.compileAs(0, one), 1);
        int row = one;
        for (int i = 0; i < 5; i++) {
            row = x.then(row, row);
        }
        DOC.same("a row of six levels", x.compileAs(0, row), 6);
        DOC.same("as counted", x.on.count(5), 6);
        x.token(3);
        DOC.same("a node made later", x.on.count(5), 6);
    }

    private static void promise4RulesAreKept() {
        DOC.sentence("Promise 4: compile", "the rules are kept as they are now for all that follows.");
        Bench x = new Bench();
        int one = x.token(1);
        int two = x.token(2);
        int root = x.then(x.call(1), x.call(1));
        x.on.rule(1, one);
        x.compileAs(0, root);
        x.on.rule(1, two);
        DOC.same("the old rule", x.parse(1, 1), 0);
        DOC.same("not the new one", x.parse(2, 2), MISMATCH);
        DOC.same("the new one for the next compile", x.on.compile(0), 4);
        DOC.same("the new rule", x.parse(2, 2), 0);
        DOC.same("not the old one", x.parse(1, 1), MISMATCH);
        DOC.same("nothing of the old one is left in FIRST", x.on.first(root), 4);
        DOC.same("nor in NEXT", x.on.next(root - 1), 1 << END);
        DOC.same("nor is it USED", x.on.first(one), REFUSED);
        x.on.rule(1, x.call(1));
        DOC.same("a BAD rule does no harm before it is compiled", x.parse(2, 2), 0);
        DOC.same("then it does", x.on.compile(0), RECURSIVE);
    }
}
