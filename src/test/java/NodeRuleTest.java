/** Promises 1 to 3: a new object, node, rule. */
public final class NodeRuleTest {
    private static final int REFUSED = ParserGenerator.REFUSED;
    private static final int NONE = ParserGenerator.NONE;
    private static final int[] WILD = {Integer.MIN_VALUE, -1000, -11, -1, 1000, Integer.MAX_VALUE};

    private static final Check CHECK = new Check();

    public static void main(String[] args) {
        newObject();
        numbers();
        kinds();
        rangesOfOperands();
        operandsThatAreNodes();
        operandsNotNamed();
        levels();
        levelOfAhead();
        full();
        rules();
        ruleLeavesCompiled();
        CHECK.end("NodeRuleTest");
    }

    private static void newObject() {
        ParserGenerator g = new ParserGenerator();
        for (int what = 0; what <= 5; what++) {
            CHECK.same("new: count(" + what + ")", g.count(what), 0);
        }
        CHECK.same("new: parse()", g.parse(), REFUSED);
        CHECK.same("new: place()", g.place(), NONE);
        CHECK.same("new: due()", g.due(), NONE);
        CHECK.same("new: tree(0, 0)", g.tree(0, 0), NONE);
        CHECK.same("new: empty(0)", g.empty(0), REFUSED);
        CHECK.same("new: wipe()", g.wipe(), 0);
        for (int r = 0; r < 8; r++) {
            CHECK.same("new: compile(" + r + ")", g.compile(r), ParserGenerator.UNDEFINED);
        }
        CHECK.same("new: rule(0, 0)", g.rule(0, 0), REFUSED);
        CHECK.same("new: the first node", g.node(6, 0, 0), 0);
        CHECK.same("another new object has no nodes", new ParserGenerator().count(0), 0);
    }

    private static void numbers() {
        Bench x = new Bench();
        CHECK.same("token", x.token(9), 0);
        CHECK.same("call", x.call(7), 1);
        CHECK.same("then", x.then(0, 1), 2);
        CHECK.same("or", x.or(2, 2), 3);
        CHECK.same("maybe", x.maybe(0), 4);
        CHECK.same("many", x.many(1), 5);
        CHECK.same("nothing", x.nothing(), 6);
        CHECK.same("ahead", x.ahead(4, 5), 7);
        CHECK.same("named", x.named(15, 7), 8);
        CHECK.same("nodes made", x.on.count(0), 9);
    }

    private static void kinds() {
        ParserGenerator g = new ParserGenerator();
        g.node(6, 0, 0);
        for (int kind : WILD) {
            CHECK.same("kind " + kind, g.node(kind, 0, 0), REFUSED);
        }
        CHECK.same("kind 9", g.node(9, 0, 0), REFUSED);
        CHECK.same("refused kinds make nothing", g.count(0), 1);
    }

    private static void rangesOfOperands() {
        ParserGenerator g = new ParserGenerator();
        g.node(6, 0, 0);
        for (int a : WILD) {
            CHECK.same("token " + a, g.node(0, a, 0), REFUSED);
            CHECK.same("call of " + a, g.node(1, a, 0), REFUSED);
            CHECK.same("label " + a, g.node(8, a, 0), REFUSED);
        }
        CHECK.same("token 10", g.node(0, 10, 0), REFUSED);
        CHECK.same("call of 8", g.node(1, 8, 0), REFUSED);
        CHECK.same("label 16", g.node(8, 16, 0), REFUSED);
        CHECK.same("refused operands make nothing", g.count(0), 1);
        CHECK.same("token 0", g.node(0, 0, 0), 1);
        CHECK.same("token 9", g.node(0, 9, 0), 2);
        CHECK.same("call of 0", g.node(1, 0, 0), 3);
        CHECK.same("call of 7", g.node(1, 7, 0), 4);
        CHECK.same("label 0", g.node(8, 0, 0), 5);
        CHECK.same("label 15", g.node(8, 15, 0), 6);
    }

    private static void operandsThatAreNodes() {
        ParserGenerator g = new ParserGenerator();
        for (int kind : new int[] {2, 3, 4, 5, 7, 8}) {
            CHECK.same("no nodes yet, kind " + kind, g.node(kind, 0, 0), REFUSED);
        }
        g.node(6, 0, 0);
        g.node(6, 0, 0);
        for (int kind : new int[] {2, 3, 4, 5, 7}) {
            for (int a : WILD) {
                CHECK.same("a " + a + ", kind " + kind, g.node(kind, a, 0), REFUSED);
            }
            CHECK.same("a is the node itself, kind " + kind, g.node(kind, 2, 0), REFUSED);
        }
        for (int kind : new int[] {2, 3, 7, 8}) {
            for (int b : WILD) {
                CHECK.same("b " + b + ", kind " + kind, g.node(kind, 0, b), REFUSED);
            }
            CHECK.same("b is the node itself, kind " + kind, g.node(kind, 0, 2), REFUSED);
        }
        CHECK.same("refused operands make nothing", g.count(0), 2);
        int made = 2;
        for (int kind : new int[] {2, 3, 4, 5, 7, 8}) {
            CHECK.same("the last node twice, kind " + kind, g.node(kind, 1, 1), made++);
        }
    }

    private static void operandsNotNamed() {
        ParserGenerator g = new ParserGenerator();
        CHECK.same("nothing has no operands", g.node(6, -5, 99), 0);
        CHECK.same("a token has no b", g.node(0, 1, -5), 1);
        CHECK.same("a call has no b", g.node(1, 1, 99), 2);
        CHECK.same("maybe has no b", g.node(4, 1, -5), 3);
        CHECK.same("many has no b", g.node(5, 1, Integer.MAX_VALUE), 4);
        CHECK.same("many with the number of a node as b", g.node(5, 1, 0), 5);
        g.rule(1, 3);
        g.rule(0, g.node(2, g.node(2, 2, 5), g.node(2, 4, 0)));
        CHECK.same("they compile", g.compile(0), 9);
        CHECK.same("they parse", g.parse(), 0);
        g.rule(0, g.node(3, 5, 1));
        CHECK.same("b of many is not used", g.compile(0), 3);
        CHECK.same("so it has no NEXT", g.next(0), REFUSED);
        g.rule(0, g.node(2, 0, g.node(2, 5, 0)));
        g.compile(0);
        CHECK.same("nor does many give it any", g.next(0), 2 + 1024);
    }

    private static void levels() {
        for (int kind : new int[] {2, 3, 4, 5, 7, 8}) {
            ParserGenerator g = new ParserGenerator();
            int top = g.node(0, 5, 0);
            for (int level = 2; level <= 6; level++) {
                int up = kind == 8 ? g.node(8, 5, top) : g.node(kind, top, top);
                CHECK.same("level " + level + ", kind " + kind, up, top + 1);
                top = up;
            }
            CHECK.same("level 7, kind " + kind, kind == 8 ? g.node(8, 5, top) : g.node(kind, top, top), REFUSED);
            CHECK.same("a refused level makes nothing", g.count(0), 6);
        }
    }

    private static void levelOfAhead() {
        Bench x = new Bench();
        int low = x.token(0);
        int high = x.idle(6);
        int before = x.on.count(0);
        CHECK.same("a of ahead counts", x.ahead(high, low), REFUSED);
        CHECK.same("b of ahead counts", x.ahead(low, high), REFUSED);
        CHECK.same("a of then counts", x.then(high, low), REFUSED);
        CHECK.same("b of then counts", x.then(low, high), REFUSED);
        CHECK.same("a of or counts", x.or(high, low), REFUSED);
        CHECK.same("b of or counts", x.or(low, high), REFUSED);
        CHECK.same("a label is no node with a level", x.on.node(8, high, low), before);
        CHECK.same("a called rule has no say", x.on.rule(0, high), 0);
        CHECK.same("so a call has level 1", x.maybe(x.call(0)), before + 2);
    }

    private static void full() {
        Bench x = new Bench();
        int high = x.idle(6);
        while (x.on.count(0) < 59) {
            x.token(1);
        }
        CHECK.same("the 60th node", x.token(1), 59);
        CHECK.same("a 61st node", x.token(1), ParserGenerator.FULL);
        CHECK.same("a 61st node of two", x.then(0, 59), ParserGenerator.FULL);
        CHECK.same("full, and out of range", x.token(10), REFUSED);
        CHECK.same("full, and no node", x.maybe(60), REFUSED);
        CHECK.same("full, and level 7", x.maybe(high), REFUSED);
        CHECK.same("full: still 60", x.on.count(0), 60);
        CHECK.same("the 60th node can be used", x.compileAs(0, 59), 1);
    }

    private static void rules() {
        Bench x = new Bench();
        int node = x.token(3);
        for (int r : WILD) {
            CHECK.same("rule " + r, x.on.rule(r, node), REFUSED);
        }
        CHECK.same("rule 8", x.on.rule(8, node), REFUSED);
        for (int no : WILD) {
            CHECK.same("rule 0 is node " + no, x.on.rule(0, no), REFUSED);
        }
        CHECK.same("no such node", x.on.rule(0, 1), REFUSED);
        CHECK.same("refused, so not defined", x.on.compile(0), ParserGenerator.UNDEFINED);
        CHECK.same("rule 0", x.on.rule(0, node), 0);
        CHECK.same("rule 7", x.on.rule(7, node), 0);
        CHECK.same("refused again", x.on.rule(0, 1), REFUSED);
        CHECK.same("what it was stays", x.on.compile(0), 1);
        CHECK.same("rule 7 can be compiled", x.on.compile(7), 1);
        CHECK.same("rule 6 is not defined", x.on.compile(6), ParserGenerator.UNDEFINED);
        int two = x.maybe(node);
        CHECK.same("rule 0 becomes another", x.on.rule(0, two), 0);
        CHECK.same("and is so for the next compile", x.on.compile(0), 2);
    }

    private static void ruleLeavesCompiled() {
        Bench x = new Bench();
        int three = x.token(3);
        int four = x.token(4);
        int inner = x.call(1);
        x.on.rule(1, three);
        x.compileAs(0, inner);
        x.on.rule(0, four);
        x.on.rule(1, four);
        CHECK.same("what is used stays", x.on.first(three), 8);
        CHECK.same("what is not used stays so", x.on.first(four), REFUSED);
        CHECK.same("first stays", x.on.first(inner), 8);
        CHECK.same("used nodes stay", x.on.count(5), 2);
        CHECK.same("parsing goes by the old rules", x.parse(3), 0);
        CHECK.same("and not by the new ones", x.parse(4), ParserGenerator.MISMATCH);
        x.on.compile(0);
        CHECK.same("until compiled again", x.parse(4), 0);
    }
}
