/** The sentences of "What it is" and "Terms" that name no boundary case, each by a method of its own. */
public final class PlainSentencesTest {
    private static final int MISMATCH = ParserGenerator.MISMATCH;
    private static final int NONE = ParserGenerator.NONE;
    private static final int END = 10;

    private static final Sentences DOC = new Sentences();

    public static void main(String[] args) {
        grammarsParseAndMakeTrees();
        laterCallsAreFree();
        thenOrMaybeMany();
        nothingAndAhead();
        compilingForTheRoot();
        beginsWithTheRootsNode();
        aThenB();
        aheadAndNamedAreTheirB();
        DOC.end("PlainSentencesTest");
    }

    private static void ends(String what, ParserGenerator g, int answer, int error, int place, int due) {
        DOC.same(what, answer, error);
        DOC.same(what + ": place", g.place(), place);
        DOC.same(what + ": due", g.due(), due);
    }

    private static void tree(String what, ParserGenerator g, int i, int label, int parts, int place) {
        DOC.same(what + ": label", g.tree(i, 0), label);
        DOC.same(what + ": parts", g.tree(i, 1), parts);
        DOC.same(what + ": place", g.tree(i, 2), place);
    }

    private static void grammarsParseAndMakeTrees() {
        DOC.sentence("What it is", "grammars are put together from nodes, checked and analysed, and then parse rows of "
            + "tokens with one token of lookahead, or by trying a part ahead, making trees.");
        Bench x = new Bench();
        int number = x.named(1, x.token(0));
        int group = x.named(2, x.then(x.token(1), x.then(x.call(0), x.token(2))));
        x.on.rule(1, x.or(group, number));
        int item = x.call(1);
        DOC.same("a grammar that calls itself behind a token", x.compileAs(0, x.then(item, x.many(item))), 12);
        DOC.same("needs one token of lookahead", x.on.count(4), 0);
        ends("a row", x.on, x.parse(0, 1, 0, 0, 2), 0, 5, NONE);
        DOC.same("makes trees", x.on.count(2), 9);
        tree("the number", x.on, 0, 1, 1, 0);
        tree("the group", x.on, 2, 2, 4, 1);
        tree("its last leaf", x.on, 8, 18, 0, 4);
        int assign = x.named(3, x.then(x.token(3), x.then(x.token(4), x.token(3))));
        x.compileAs(2, x.or(x.ahead(assign, assign), x.named(4, x.token(3))));
        ends("the longer part tried ahead", x.on, x.parse(3, 4, 3), 0, 3, NONE);
        tree("the longer", x.on, 0, 3, 3, 0);
        ends("the shorter one", x.on, x.parse(3), 0, 1, NONE);
        tree("the shorter", x.on, 0, 4, 1, 0);
    }

    /** Free are the answers alone: the rules of the language let no call throw. */
    private static void laterCallsAreFree() {
        DOC.sentence("What it is", "what later calls answer is free.");
        Bench x = new Bench();
        x.compileAs(0, x.many(x.named(1, x.token(1))));
        for (int i = 0; i < 2000; i++) {
            x.on.node(i % 11, i % 7, i % 5);
            x.on.rule(i % 9, i % 61);
            x.on.feed(i % 11);
            x.on.compile(i % 8);
            x.on.parse();
            x.on.tree(i % 91, i % 4);
            x.on.count(i % 7);
        }
        DOC.same("the 14,000th call came back", x.on.count(6), ParserGenerator.REFUSED);
    }

    private static void thenOrMaybeMany() {
        DOC.sentence("Terms", "2 THEN: node a, then node b. 3 OR: node a or node b. 4 MAYBE node a. 5 MANY: node a any "
            + "number of times.");
        Bench x = new Bench();
        int one = x.token(1);
        int two = x.token(2);
        x.compileAs(0, x.then(one, two));
        ends("THEN", x.on, x.parse(1, 2), 0, 2, NONE);
        ends("THEN the other way round", x.on, x.parse(2, 1), MISMATCH, 0, 1);
        x.compileAs(0, x.or(one, two));
        ends("OR a", x.on, x.parse(1), 0, 1, NONE);
        ends("OR b", x.on, x.parse(2), 0, 1, NONE);
        ends("OR both", x.on, x.parse(1, 2), MISMATCH, 1, END);
        x.compileAs(0, x.maybe(one));
        ends("MAYBE not", x.on, x.parse(), 0, 0, NONE);
        ends("MAYBE once", x.on, x.parse(1), 0, 1, NONE);
        ends("MAYBE twice", x.on, x.parse(1, 1), MISMATCH, 1, END);
        x.compileAs(0, x.many(one));
        for (int times = 0; times <= 5; times++) {
            ends("MANY " + times + " times", x.on, x.parseRow(1, times), 0, times, NONE);
        }
    }

    private static void nothingAndAhead() {
        DOC.sentence("Terms", "6 NOTHING. 7 AHEAD: node b, chosen if node a can be parsed ahead.");
        Bench x = new Bench();
        int one = x.token(1);
        x.compileAs(0, x.nothing());
        ends("NOTHING", x.on, x.parse(), 0, 0, NONE);
        ends("NOTHING at a token", x.on, x.parse(1), MISMATCH, 0, END);
        int ahead = x.ahead(x.then(one, x.token(2)), x.named(1, one));
        x.compileAs(0, x.then(x.or(ahead, x.named(2, one)), x.maybe(x.token(2))));
        ends("AHEAD chosen", x.on, x.parse(1, 2), 0, 2, NONE);
        tree("AHEAD chosen", x.on, 0, 1, 1, 0);
        ends("AHEAD not chosen", x.on, x.parse(1), 0, 1, NONE);
        tree("AHEAD not chosen", x.on, 0, 2, 1, 0);
    }

    private static void compilingForTheRoot() {
        DOC.sentence("Terms", "COMPILING for a rule, the ROOT.");
        Bench x = new Bench();
        int one = x.token(1);
        int two = x.token(2);
        x.on.rule(0, one);
        x.on.rule(1, two);
        DOC.same("rule 0", x.on.compile(0), 1);
        DOC.same("its node is USED", x.on.next(one), 1 << END);
        DOC.same("another rule's is not", x.on.next(two), ParserGenerator.REFUSED);
        DOC.same("rule 1", x.on.compile(1), 1);
        DOC.same("now that one's is", x.on.next(two), 1 << END);
        DOC.same("and the first one's is not", x.on.next(one), ParserGenerator.REFUSED);
    }

    private static void beginsWithTheRootsNode() {
        DOC.sentence("Terms", "It begins with the ROOT's node:");
        Bench x = new Bench();
        x.on.rule(0, x.token(1));
        x.on.rule(1, x.token(2));
        x.on.compile(0);
        ends("rule 0 is the ROOT", x.on, x.parse(1), 0, 1, NONE);
        ends("rule 1 is not", x.on, x.parse(2), MISMATCH, 0, 1);
        x.on.compile(1);
        ends("rule 1 is the ROOT", x.on, x.parse(2), 0, 1, NONE);
        DOC.same("the ROOT itself is no call and no step", x.on.count(3), 1);
    }

    private static void aThenB() {
        DOC.sentence("Terms", "2: a, b.");
        Bench x = new Bench();
        int one = x.token(1);
        x.compileAs(0, x.then(x.then(one, x.token(2)), x.then(one, x.token(3))));
        ends("in this order", x.on, x.parse(1, 2, 1, 3), 0, 4, NONE);
        DOC.same("each counts", x.on.count(3), 7);
        ends("an error in a: b is not parsed", x.on, x.parse(1, 1, 3), MISMATCH, 1, 2);
        DOC.same("nor counted", x.on.count(3), 4);
        ends("an error in b", x.on, x.parse(1, 2, 1, 2), MISMATCH, 3, 3);
    }

    private static void aheadAndNamedAreTheirB() {
        DOC.sentence("Terms", "7: b. 8: b.");
        Bench x = new Bench();
        int one = x.token(1);
        x.compileAs(0, x.ahead(x.token(2), one));
        ends("an AHEAD that is no operand does not try its a", x.on, x.parse(1), 0, 1, NONE);
        DOC.same("AHEAD and its b count, its a does not", x.on.count(3), 2);
        ends("its b is parsed, not its a", x.on, x.parse(2), MISMATCH, 0, 1);
        x.compileAs(0, x.named(9, one));
        ends("a NAMED", x.on, x.parse(1), 0, 1, NONE);
        DOC.same("it and its b count", x.on.count(3), 2);
        tree("its tree", x.on, 0, 9, 1, 0);
        ends("a NAMED whose b fails", x.on, x.parse(2), MISMATCH, 0, 1);
    }
}
