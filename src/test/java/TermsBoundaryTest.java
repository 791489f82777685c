/** The sentences of "What it is" and "Terms" that name a boundary case, each by a method of its own. */
public final class TermsBoundaryTest {
    private static final int REFUSED = ParserGenerator.REFUSED;
    private static final int FULL = ParserGenerator.FULL;
    private static final int UNDEFINED = ParserGenerator.UNDEFINED;
    private static final int RECURSIVE = ParserGenerator.RECURSIVE;
    private static final int ENDLESS = ParserGenerator.ENDLESS;
    private static final int MISMATCH = ParserGenerator.MISMATCH;
    private static final int DEEP = ParserGenerator.DEEP;
    private static final int TIRED = ParserGenerator.TIRED;
    private static final int LARGE = ParserGenerator.LARGE;
    private static final int NONE = ParserGenerator.NONE;
    private static final int END = 10;
    private static final int ENDSET = 1 << END;

    private static final Sentences DOC = new Sentences();

    public static void main(String[] args) {
        usedForAtMost512Calls();
        tokensAre0To9();
        tenIsTheEnd();
        setsAreSums();
        nodesAtMost60();
        operandsAreEarlierNodes();
        kindsWithTheirRanges();
        levelAtMost6();
        rulesAreNodesOrNotDefined();
        usedNodes();
        emptyableIsTheLeastSet();
        firstIsTheLeastSet();
        firstOfNothing();
        nextOfTheRoot();
        nextOfTheOperands();
        nextOfARule();
        aheadGivesNothingToItsA();
        startOfAnEmptyable();
        badInThisOrder();
        badUsedCallsOnly();
        badRecursionBehindEmptyables();
        badRecursionOfCalledRulesAndTheRoot();
        badUsedManyOnly();
        inputAtMost40();
        tokenHere();
        sixCallsUnderWay();
        orElseB();
        maybeElseNothing();
        manyAsLongAsChosen();
        nothing();
        chosenIfScanned();
        chosenByStartOrFirst();
        scanningMakesNoTrees();
        aheadInScanning();
        deepCountsFromParsingOn();
        eachNodeCountsAStep();
        tiredIf1500WereCounted();
        endBehindTheRoot();
        treeInItsOrder();
        moreThan90AreLarge();
        theConstants();
        DOC.end("TermsBoundaryTest");
    }

    private static void ends(String what, ParserGenerator g, int answer, int error, int place, int due) {
        DOC.same(what, answer, error);
        DOC.same(what + ": place", g.place(), place);
        DOC.same(what + ": due", g.due(), due);
    }

    private static void usedForAtMost512Calls() {
        DOC.sentence("What it is", "An object is used for at most 512 calls after it has been made");
        Bench x = new Bench();
        x.compileAs(0, x.many(x.token(1)));
        int calls = 4;
        for (; calls < 44; calls++) {
            x.on.feed(1);
        }
        for (; calls < 510; calls += 2) {
            DOC.same("call " + (calls + 1) + ", parse()", x.on.parse(), 0);
            DOC.same("call " + (calls + 2) + ", count(2)", x.on.count(2), 40);
        }
        DOC.same("call 511, count(3)", x.on.count(3), 41);
        DOC.same("call 512, tree(39, 2)", x.on.tree(39, 2), 39);
    }

    private static void tokensAre0To9() {
        DOC.sentence("Terms", "TOKENS are 0 .. 9; 10 is the END.");
        for (int t = 0; t <= 9; t++) {
            Bench x = new Bench();
            DOC.same("node of token " + t, x.token(t), 0);
            DOC.same("feed of token " + t, x.on.feed(t), 1);
            x.compileAs(0, 0);
            DOC.same("parse of token " + t, x.on.parse(), 0);
        }
        ParserGenerator g = new ParserGenerator();
        for (int t : Numbers.outside(10)) {
            DOC.same("node of token " + t, g.node(0, t, 0), REFUSED);
            DOC.same("feed of token " + t, g.feed(t), REFUSED);
        }
        DOC.same("no node was made", g.count(0), 0);
        DOC.same("no token was fed", g.count(1), 0);
    }

    private static void tenIsTheEnd() {
        DOC.sentence("Terms", "10 is the END.");
        Bench x = new Bench();
        x.compileAs(0, x.nothing());
        DOC.same("the END as a set", x.on.next(0), 1024);
        DOC.same("a token where the END must be", x.parse(9), MISMATCH);
        DOC.same("the END as a token", x.on.due(), 10);
    }

    /** An OR of all ten tokens, in five levels and nineteen nodes. */
    private static int anyToken(Bench x) {
        int[] fives = new int[2];
        for (int i = 0; i < 2; i++) {
            int low = x.or(x.token(5 * i), x.token(5 * i + 1));
            int high = x.or(x.token(5 * i + 2), x.token(5 * i + 3));
            fives[i] = x.or(x.or(low, high), x.token(5 * i + 4));
        }
        return x.or(fives[0], fives[1]);
    }

    private static void setsAreSums() {
        DOC.sentence("Terms", "Sets of tokens are answered as sums of 2^t.");
        Bench x = new Bench();
        int any = anyToken(x);
        int many = x.many(any);
        x.compileAs(0, many);
        DOC.same("all ten", x.on.first(many), 1023);
        DOC.same("all ten and the END", x.on.next(any), 2047);
        DOC.same("the END alone", x.on.next(many), 1024);
        DOC.same("the least token", x.on.first(0), 1);
        int none = x.nothing();
        x.compileAs(0, none);
        DOC.same("no token", x.on.first(none), 0);
        Bench y = new Bench();
        y.compileAs(0, y.token(9));
        DOC.same("the greatest token", y.on.first(0), 512);
    }

    private static void nodesAtMost60() {
        DOC.sentence("Terms", "NODES are numbered 0, 1, .. as they are made, at most 60; their operands are earlier nodes.");
        ParserGenerator g = new ParserGenerator();
        for (int i = 0; i < 60; i++) {
            DOC.same("refused, so it takes no number", g.node(0, 10, 0), REFUSED);
            DOC.same("node " + i, g.node(6, 0, 0), i);
        }
        DOC.same("a 61st", g.node(6, 0, 0), FULL);
        DOC.same("60 are there", g.count(0), 60);
        DOC.same("node 59 can be a rule", g.rule(0, 59), 0);
        DOC.same("node 60 can't", g.rule(0, 60), REFUSED);
    }

    private static void operandsAreEarlierNodes() {
        DOC.sentence("Terms", "their operands are earlier nodes.");
        for (int kind : new int[] {2, 3, 4, 5, 7, 8}) {
            ParserGenerator g = new ParserGenerator();
            DOC.same("kind " + kind + ", no earlier node", g.node(kind, 0, 0), REFUSED);
            g.node(6, 0, 0);
            if (kind != 8) {
                DOC.same("kind " + kind + ", a is the node itself", g.node(kind, 1, 0), REFUSED);
                DOC.same("kind " + kind + ", a is a later node", g.node(kind, 2, 0), REFUSED);
            }
            if (kind != 4 && kind != 5) {
                DOC.same("kind " + kind + ", b is the node itself", g.node(kind, 0, 1), REFUSED);
                DOC.same("kind " + kind + ", b is a later node", g.node(kind, 0, 2), REFUSED);
            }
            DOC.same("kind " + kind + ", the node before it", g.node(kind, 0, 0), 1);
            DOC.same("kind " + kind + ", the nodes before it", g.node(kind, 1, 1), 2);
        }
        ParserGenerator g = new ParserGenerator();
        for (int i = 0; i < 59; i++) {
            g.node(6, 0, 0);
        }
        DOC.same("the 60th node of the 59th", g.node(2, 58, 58), 59);
    }

    private static void kindsWithTheirRanges() {
        DOC.sentence("Terms", "0 TOKEN a (0 .. 9). 1 CALL of rule a (0 .. 7).");
        ParserGenerator g = new ParserGenerator();
        DOC.same("token 0", g.node(0, 0, 0), 0);
        DOC.same("token 9", g.node(0, 9, 0), 1);
        DOC.same("token 10", g.node(0, 10, 0), REFUSED);
        DOC.same("token -1", g.node(0, -1, 0), REFUSED);
        DOC.same("call of rule 0", g.node(1, 0, 0), 2);
        DOC.same("call of rule 7", g.node(1, 7, 0), 3);
        DOC.same("call of rule 8", g.node(1, 8, 0), REFUSED);
        DOC.same("call of rule -1", g.node(1, -1, 0), REFUSED);
        DOC.sentence("Terms", "8 NAMED: node b, its tree having the label a (0 .. 15).");
        DOC.same("label 0", g.node(8, 0, 0), 4);
        DOC.same("label 15", g.node(8, 15, 0), 5);
        DOC.same("label 16", g.node(8, 16, 0), REFUSED);
        DOC.same("label -1", g.node(8, -1, 0), REFUSED);
    }

    private static void levelAtMost6() {
        DOC.sentence("Terms", "The LEVEL of a node is 1 for 0, 1, 6, else one more than its operands' greatest "
            + "(for 7 that of a counts, too); at most 6.");
        for (int bottom : new int[] {0, 1, 6}) {
            for (int kind : new int[] {2, 3, 4, 5, 7, 8}) {
                ParserGenerator g = new ParserGenerator();
                g.node(bottom, 0, 0);
                for (int level = 2; level <= 6; level++) {
                    DOC.same("kind " + kind + " of level " + level, g.node(kind, level - 2, level - 2), level - 1);
                }
                DOC.same("kind " + kind + " of level 7", g.node(kind, 5, 5), REFUSED);
            }
        }
        ParserGenerator g = new ParserGenerator();
        g.node(0, 1, 0);
        for (int i = 0; i < 5; i++) {
            g.node(4, i, 0);
        }
        for (int kind : new int[] {2, 3, 7}) {
            DOC.same("kind " + kind + ", a of level 6", g.node(kind, 5, 0), REFUSED);
            DOC.same("kind " + kind + ", b of level 6", g.node(kind, 0, 5), REFUSED);
        }
        DOC.same("kind 7, a of level 5", g.node(7, 4, 0), 6);
        DOC.same("it has level 6", g.node(4, 6, 0), REFUSED);
        DOC.same("the label of 8 has no level", g.node(8, 5, 0), 7);
        DOC.same("nor has b of 4", g.node(4, 0, 5), 8);
        DOC.same("nor has b of 5", g.node(5, 0, 5), 9);
        g.rule(0, 5);
        DOC.same("nor has a called rule", g.node(1, 0, 0), 10);
        DOC.same("so a node of the call has level 2", g.node(4, 10, 0), 11);
    }

    private static void rulesAreNodesOrNotDefined() {
        DOC.sentence("Terms", "RULES 0 .. 7 are nodes, or are not defined.");
        ParserGenerator g = new ParserGenerator();
        g.node(6, 0, 0);
        for (int r = 0; r <= 7; r++) {
            DOC.same("rule " + r + " is not defined", g.compile(r), UNDEFINED);
            DOC.same("rule " + r + " becomes a node", g.rule(r, 0), 0);
            DOC.same("rule " + r + " is defined", g.compile(r), 1);
        }
        for (int r : Numbers.outside(8)) {
            DOC.same("rule " + r, g.rule(r, 0), REFUSED);
            DOC.same("compile of " + r, g.compile(r), REFUSED);
        }
    }

    private static void usedNodes() {
        DOC.sentence("Terms", "USED are the ROOT's node, the nodes of rules called by USED CALLs, and the operands of USED "
            + "nodes (a of AHEAD, too).");
        Bench x = new Bench();
        int one = x.token(1);
        DOC.same("the ROOT's node alone", x.compileAs(0, one), 1);
        DOC.same("a node that stands twice counts once", x.compileAs(0, x.then(one, one)), 2);
        int tried = x.token(2);
        DOC.same("a of AHEAD", x.compileAs(0, x.ahead(tried, one)), 3);
        DOC.same("a of AHEAD has sets", x.on.first(tried), 4);
        DOC.same("a label is no node", x.compileAs(0, x.named(tried, one)), 2);
        DOC.same("b of MANY is none", x.compileAs(0, x.on.node(5, one, tried)), 2);
        int self = x.call(0);
        DOC.same("the ROOT that is called counts once", x.compileAs(0, x.then(one, self)), 3);
        DOC.same("rules of one node", x.compileAs(1, x.then(one, self)), 4);
        callAsNode0();
        allOfSixty();
    }

    private static void callAsNode0() {
        Bench x = new Bench();
        int call = x.call(1);
        DOC.same("the least number", call, 0);
        DOC.same("node 0 calls what is not defined", x.compileAs(0, call), UNDEFINED);
        int one = x.token(1);
        x.on.rule(1, one);
        DOC.same("node 0 and the node that it calls", x.on.compile(0), 2);
        DOC.same("node 0 gives its NEXT to the rule", x.on.next(one), ENDSET);
        x.on.rule(1, call);
        DOC.same("node 0 calls itself", x.on.compile(1), RECURSIVE);
        DOC.same("node 0 calls a ring", x.compileAs(2, x.then(one, call)), RECURSIVE);
    }

    /** Thirty parts joined to one in six levels, 59 nodes; one of them is a call of the 60th. */
    private static void allOfSixty() {
        Bench x = new Bench();
        int[] row = new int[30];
        for (int i = 0; i < 29; i++) {
            row[i] = x.token(i % 10);
        }
        row[29] = x.call(7);
        int length = 30;
        while (length > 1) {
            int joined = 0;
            for (int i = 0; i + 1 < length; i += 2) {
                row[joined++] = x.then(row[i], row[i + 1]);
            }
            if (length % 2 == 1) {
                row[joined++] = row[length - 1];
            }
            length = joined;
        }
        int last = x.token(9);
        x.on.rule(7, last);
        DOC.same("the 60th node", last, 59);
        DOC.same("all sixty", x.compileAs(0, row[0]), 60);
        DOC.same("all sixty are counted", x.on.count(5), 60);
        DOC.same("FIRST of the 60th", x.on.first(59), 512);
        DOC.same("NEXT of the 60th", x.on.next(59), ENDSET);
        for (int i = 0; i < 30; i++) {
            x.on.feed(i % 10);
        }
        DOC.same("they parse", x.on.parse(), 0);
        DOC.same("each once, and the called one", x.on.count(3), 60);
    }

    private static void emptyableIsTheLeastSet() {
        DOC.sentence("Terms", "A node is EMPTY-ABLE: 4, 5, 6; 2 and 3 if both, or one of, a and b are; 1, 7, 8 if the "
            + "rule's node, or b, is (the least such set).");
        Bench x = new Bench();
        int one = x.token(1);
        int here = x.call(0);
        int there = x.call(1);
        x.on.rule(1, x.then(one, here));
        int root = x.then(one, there);
        x.compileAs(0, root);
        DOC.same("calls in a ring are not", x.on.empty(here), 0);
        DOC.same("neither of them", x.on.empty(there), 0);
        int either = x.or(root, x.nothing());
        x.compileAs(0, either);
        DOC.same("OR with one that is", x.on.empty(either), 1);
        DOC.same("a call of it", x.on.empty(here), 1);
        DOC.same("THEN with one that is", x.on.empty(root), 0);
        DOC.same("a call of that", x.on.empty(there), 0);
        int both = x.then(here, x.ahead(one, x.named(0, here)));
        x.compileAs(2, both);
        DOC.same("THEN of both, by way of 1, 7 and 8", x.on.empty(both), 1);
    }

    private static void firstIsTheLeastSet() {
        DOC.sentence("Terms", "FIRST of a node: 0: its token; 1: that of the rule's node; 2: that of a, and if a is "
            + "EMPTY-ABLE that of b, too; 3: those of both; 4, 5: that of a; 6: none;");
        Bench x = new Bench();
        int one = x.token(1);
        int two = x.token(2);
        int front = x.then(x.nothing(), x.then(x.maybe(one), x.then(x.many(two), x.token(3))));
        x.compileAs(0, front);
        DOC.same("behind a row of EMPTY-ABLES", x.on.first(front), 2 + 4 + 8);
        int shut = x.then(one, front);
        x.compileAs(0, shut);
        DOC.same("not behind a token", x.on.first(shut), 2);
        int tail = x.then(x.maybe(one), x.nothing());
        x.compileAs(0, tail);
        DOC.same("if b has none", x.on.first(tail), 2);
        DOC.sentence("Terms", "7, 8: that of b (the least such sets).");
        int ahead = x.ahead(one, two);
        int name = x.named(one, ahead);
        x.compileAs(0, name);
        DOC.same("AHEAD", x.on.first(ahead), 4);
        DOC.same("NAMED", x.on.first(name), 4);
        int self = x.call(1);
        x.compileAs(1, x.then(two, self));
        DOC.same("a ring of calls adds nothing", x.on.first(self), 4);
    }

    private static void firstOfNothing() {
        DOC.sentence("Terms", "6: none;");
        Bench x = new Bench();
        int none = x.nothing();
        int pair = x.then(none, none);
        int root = x.or(x.maybe(none), pair);
        x.compileAs(0, root);
        DOC.same("NOTHING", x.on.first(none), 0);
        DOC.same("what is made of it", x.on.first(root), 0);
        DOC.same("it clashes only by its NEXT", x.on.clash(root), ENDSET);
    }

    private static void nextOfTheRoot() {
        DOC.sentence("Terms", "NEXT of a USED node (the least such sets): of the ROOT's node: the END.");
        Bench x = new Bench();
        int one = x.token(1);
        x.compileAs(0, one);
        DOC.same("a ROOT alone", x.on.next(one), ENDSET);
        int loop = x.or(x.then(x.token(2), x.then(x.call(0), x.token(3))), one);
        x.compileAs(0, loop);
        DOC.same("a ROOT that is called has more", x.on.next(loop), ENDSET + 8);
        x.on.rule(2, one);
        x.compileAs(1, x.then(x.call(2), x.token(4)));
        DOC.same("what is no ROOT any more has no END", x.on.next(one), 16);
    }

    private static void nextOfTheOperands() {
        DOC.sentence("Terms", "Of the operands of a node n: 2: b has NEXT of n, a has FIRST of b, and if b is EMPTY-ABLE "
            + "NEXT of n, too; 3, 4, and 7, 8 for b: NEXT of n; 5: NEXT of n and FIRST of a.");
        Bench x = new Bench();
        int[] t = {x.token(0), x.token(1), x.token(2), x.token(3)};
        int open = x.maybe(t[1]);
        x.compileAs(0, x.then(x.then(t[0], open), t[2]));
        DOC.same("a, if b is EMPTY-ABLE", x.on.next(t[0]), 2 + 4);
        DOC.same("b", x.on.next(open), 4);
        DOC.same("a of 4", x.on.next(t[1]), 4);
        x.compileAs(0, x.then(x.then(t[0], t[1]), t[2]));
        DOC.same("a, if b is not EMPTY-ABLE", x.on.next(t[0]), 2);
        int empty = x.nothing();
        x.compileAs(0, x.then(t[0], empty));
        DOC.same("a, if b has no FIRST", x.on.next(t[0]), ENDSET);
        int many = x.many(t[0]);
        int or = x.or(many, t[3]);
        x.compileAs(0, x.then(x.named(3, x.ahead(t[2], or)), t[1]));
        DOC.same("b of 8 and of 7", x.on.next(or), 2);
        DOC.same("a of 3", x.on.next(many), 2);
        DOC.same("b of 3", x.on.next(t[3]), 2);
        DOC.same("a of 5", x.on.next(t[0]), 2 + 1);
    }

    private static void nextOfARule() {
        DOC.sentence("Terms", "Of the node of a rule: NEXT of every USED CALL of it.");
        Bench x = new Bench();
        int one = x.token(1);
        int first = x.then(x.call(1), x.token(2));
        int second = x.then(x.call(1), x.token(3));
        x.on.rule(1, one);
        x.compileAs(0, x.then(first, second));
        DOC.same("of both calls", x.on.next(one), 4 + 8);
        x.compileAs(0, first);
        DOC.same("not of one that is not USED", x.on.next(one), 4);
        x.on.rule(2, one);
        x.compileAs(0, x.then(first, x.then(x.call(2), x.token(4))));
        DOC.same("a node of two rules has both", x.on.next(one), 4 + 16);
    }

    private static void aheadGivesNothingToItsA() {
        DOC.sentence("Terms", "AHEAD itself gives nothing to its a.");
        Bench x = new Bench();
        int tried = x.maybe(x.token(1));
        int two = x.token(2);
        x.compileAs(0, x.then(x.ahead(tried, two), x.token(3)));
        DOC.same("a", x.on.next(tried), 0);
        DOC.same("a of a", x.on.next(tried - 1), 0);
        DOC.same("b", x.on.next(two), 8);
        x.compileAs(0, x.then(x.ahead(tried, two), tried));
        DOC.same("where a stands elsewhere it has the NEXT of there", x.on.next(tried), ENDSET);
        DOC.same("and b has its FIRST", x.on.next(two), 2 + ENDSET);
    }

    private static void startOfAnEmptyable() {
        DOC.sentence("Terms", "START of a node: FIRST, and if it is EMPTY-ABLE NEXT, too.");
        Bench x = new Bench();
        int one = x.token(1);
        int two = x.token(2);
        int open = x.or(x.maybe(one), two);
        x.compileAs(0, x.then(open, x.or(one, two)));
        DOC.same("NEXT of an EMPTY-ABLE a clashes", x.on.clash(open), 4);
        int shut = x.or(one, two);
        x.compileAs(0, x.then(shut, x.or(one, two)));
        DOC.same("NEXT of others does not", x.on.clash(shut), 0);
    }

    private static void badInThisOrder() {
        DOC.sentence("Terms", "It is BAD, tested in this order: 1 some USED CALL is of a rule that is not defined; 2 some "
            + "rule comes to itself");
        for (int bad = 0; bad < 8; bad++) {
            Bench x = new Bench();
            int root = x.token(1);
            root = x.then(root, (bad & 1) != 0 ? x.call(7) : x.call(1));
            root = x.then((bad & 2) != 0 ? x.call(0) : x.call(1), root);
            root = x.then(root, x.many((bad & 4) != 0 ? x.nothing() : x.token(2)));
            x.on.rule(1, 0);
            int due = (bad & 1) != 0 ? UNDEFINED : (bad & 2) != 0 ? RECURSIVE : (bad & 4) != 0 ? ENDLESS : 8;
            DOC.same("with the faults " + bad, x.compileAs(0, root), due);
            DOC.same("what is used then", x.on.count(5), bad == 0 ? 8 : 0);
        }
    }

    private static void badUsedCallsOnly() {
        DOC.sentence("Terms", "1 some USED CALL is of a rule that is not defined;");
        Bench x = new Bench();
        int one = x.token(1);
        int lost = x.call(7);
        DOC.same("a call that is not USED", x.compileAs(0, one), 1);
        DOC.same("the ROOT itself", x.compileAs(0, lost), UNDEFINED);
        DOC.same("in a of AHEAD", x.compileAs(0, x.ahead(lost, one)), UNDEFINED);
        x.on.rule(1, x.then(one, lost));
        DOC.same("a rule that is not called", x.compileAs(0, one), 1);
        DOC.same("a called rule", x.compileAs(0, x.then(one, x.call(1))), UNDEFINED);
        x.on.rule(7, one);
        DOC.same("once the rule is defined", x.on.compile(0), 5);
    }

    private static void badRecursionBehindEmptyables() {
        DOC.sentence("Terms", "its node COMES TO a CALL of it, where a node COMES TO: 1: itself, and what the rule's node "
            + "COMES TO; 2: what a does, and if a is EMPTY-ABLE what b does; 3: both; 4, 5, 7, 8: a, a, b, b;");
        Bench x = new Bench();
        int one = x.token(1);
        int self = x.call(0);
        DOC.same("behind a token", x.compileAs(0, x.then(one, self)), 3);
        DOC.same("behind an EMPTY-ABLE", x.compileAs(0, x.then(x.maybe(one), self)), RECURSIVE);
        DOC.same("a of THEN", x.compileAs(0, x.then(self, one)), RECURSIVE);
        DOC.same("a of OR", x.compileAs(0, x.or(self, one)), RECURSIVE);
        DOC.same("b of OR", x.compileAs(0, x.or(one, self)), RECURSIVE);
        DOC.same("a of MAYBE", x.compileAs(0, x.maybe(self)), RECURSIVE);
        DOC.same("a of MANY", x.compileAs(0, x.many(self)), RECURSIVE);
        DOC.same("b of AHEAD", x.compileAs(0, x.ahead(one, self)), RECURSIVE);
        DOC.same("a of AHEAD", x.compileAs(0, x.ahead(self, one)), 3);
        DOC.same("b of NAMED", x.compileAs(0, x.named(0, self)), RECURSIVE);
        for (int r = 0; r < 8; r++) {
            x.on.rule(r, x.call((r + 1) % 8));
        }
        DOC.same("by way of all eight rules", x.on.compile(3), RECURSIVE);
        x.on.rule(7, one);
        DOC.same("a row of eight without a way back", x.on.compile(0), 8);
    }

    private static void badRecursionOfCalledRulesAndTheRoot() {
        DOC.sentence("Terms", "(2 for rules called by USED CALLs and the ROOT.)");
        Bench x = new Bench();
        int one = x.token(1);
        int ring = x.call(1);
        x.on.rule(1, ring);
        DOC.same("a ring that nobody calls", x.compileAs(0, one), 1);
        DOC.same("the ROOT", x.on.compile(1), RECURSIVE);
        DOC.same("a called rule, behind a token", x.compileAs(0, x.then(one, ring)), RECURSIVE);
        DOC.same("one called in a of AHEAD", x.compileAs(0, x.ahead(ring, one)), RECURSIVE);
        x.on.rule(7, x.maybe(x.call(7)));
        DOC.same("rule 7 as a called one", x.compileAs(0, x.then(one, x.call(7))), RECURSIVE);
    }

    private static void badUsedManyOnly() {
        DOC.sentence("Terms", "3 some USED MANY has an EMPTY-ABLE operand.");
        Bench x = new Bench();
        int one = x.token(1);
        int endless = x.many(x.maybe(one));
        DOC.same("one that is not USED", x.compileAs(0, one), 1);
        DOC.same("the ROOT", x.compileAs(0, endless), ENDLESS);
        DOC.same("in a of AHEAD", x.compileAs(0, x.ahead(endless, one)), ENDLESS);
        x.on.rule(1, endless);
        DOC.same("in a called rule", x.compileAs(0, x.then(one, x.call(1))), ENDLESS);
        DOC.same("MAYBE of an EMPTY-ABLE is fine", x.compileAs(0, x.maybe(x.maybe(one))), 3);
        DOC.same("MANY of others is fine", x.compileAs(0, x.many(one)), 2);
    }

    private static void inputAtMost40() {
        DOC.sentence("Terms", "PARSING the input, at most 40 TOKENS, from place 0 with the END behind the last; the TOKEN "
            + "at a place counts.");
        Bench x = new Bench();
        int many = x.many(x.token(0));
        x.compileAs(0, many);
        ends("no token", x.on, x.parse(), 0, 0, NONE);
        ends("one token", x.on, x.parse(0), 0, 1, NONE);
        ends("forty tokens", x.on, x.parseRow(0, 40), 0, 40, NONE);
        x.compileAs(0, x.then(many, x.token(1)));
        ends("the END behind forty", x.on, x.parseRow(0, 40), MISMATCH, 40, 1);
        ends("the END behind none", x.on, x.parse(), MISMATCH, 0, 1);
        x.parseRow(0, 39);
        x.on.feed(1);
        ends("the fortieth token counts", x.on, x.on.parse(), 0, 40, NONE);
        ends("the END and not a token wiped before", x.on, x.parseRow(0, 39), MISMATCH, 39, 1);
    }

    private static void tokenHere() {
        DOC.sentence("Terms", "0: the TOKEN here is a: the place goes on by 1; else the error MISMATCH.");
        Bench x = new Bench();
        x.compileAs(0, x.then(x.token(0), x.token(9)));
        ends("both", x.on, x.parse(0, 9), 0, 2, NONE);
        ends("another token", x.on, x.parse(0, 8), MISMATCH, 1, 9);
        ends("the END", x.on, x.parse(0), MISMATCH, 1, 9);
        ends("the END at once", x.on, x.parse(), MISMATCH, 0, 0);
    }

    private static void sixCallsUnderWay() {
        DOC.sentence("Terms", "1: the rule's node; if 6 calls are under way: the error DEEP.");
        Bench x = new Bench();
        for (int r = 0; r < 7; r++) {
            x.on.rule(r, x.then(x.token(r), x.call(r + 1)));
        }
        x.on.rule(7, x.token(7));
        x.on.compile(1);
        ends("six calls, one in the other", x.on, x.parse(1, 2, 3, 4, 5, 6, 7), 0, 7, NONE);
        x.on.compile(0);
        ends("seven", x.on, x.parse(0, 1, 2, 3, 4, 5, 6, 7), DEEP, 7, NONE);
        DOC.same("the seventh has counted its step", x.on.count(3), 21);
        x.on.compile(2);
        ends("five", x.on, x.parse(2, 3, 4, 5, 6, 7), 0, 6, NONE);
        int call = x.call(7);
        int pair = x.then(call, call);
        int four = x.then(pair, pair);
        x.compileAs(0, x.then(four, four));
        ends("eight, one behind the other", x.on, x.parseRow(7, 8), 0, 8, NONE);
    }

    private static void orElseB() {
        DOC.sentence("Terms", "3: a if a is CHOSEN, else b.");
        Bench x = new Bench();
        int one = x.token(1);
        int two = x.token(2);
        x.compileAs(0, x.or(one, two));
        ends("a", x.on, x.parse(1), 0, 1, NONE);
        ends("b", x.on, x.parse(2), 0, 1, NONE);
        ends("neither: b is tried", x.on, x.parse(3), MISMATCH, 0, 2);
        ends("the END: b is tried", x.on, x.parse(), MISMATCH, 0, 2);
        x.compileAs(0, x.or(x.then(one, two), one));
        ends("a, once CHOSEN, is kept to", x.on, x.parse(1), MISMATCH, 1, 2);
    }

    private static void maybeElseNothing() {
        DOC.sentence("Terms", "4: a if CHOSEN, else nothing.");
        Bench x = new Bench();
        x.compileAs(0, x.maybe(x.token(1)));
        ends("nothing at the END", x.on, x.parse(), 0, 0, NONE);
        DOC.same("in one step", x.on.count(3), 1);
        ends("once", x.on, x.parse(1), 0, 1, NONE);
        ends("not twice", x.on, x.parse(1, 1), MISMATCH, 1, END);
        ends("nothing at another token", x.on, x.parse(2), MISMATCH, 0, END);
    }

    private static void manyAsLongAsChosen() {
        DOC.sentence("Terms", "5: a as long as it is CHOSEN.");
        Bench x = new Bench();
        x.compileAs(0, x.many(x.token(1)));
        ends("not at all", x.on, x.parse(), 0, 0, NONE);
        DOC.same("in one step", x.on.count(3), 1);
        ends("forty times", x.on, x.parseRow(1, 40), 0, 40, NONE);
        DOC.same("itself counts once", x.on.count(3), 41);
        ends("up to another token", x.on, x.parse(1, 1, 2), MISMATCH, 2, END);
    }

    private static void nothing() {
        DOC.sentence("Terms", "6: nothing.");
        Bench x = new Bench();
        int none = x.nothing();
        x.compileAs(0, x.then(none, x.then(x.token(1), none)));
        ends("at a token and at the END", x.on, x.parse(1), 0, 1, NONE);
        DOC.same("it counts", x.on.count(3), 5);
        DOC.same("it makes no tree", x.on.count(2), 1);
    }

    private static void chosenIfScanned() {
        DOC.sentence("Terms", "An operand a of 3, 4, 5 is CHOSEN: if it is an AHEAD: its a can be SCANNED from here;");
        Bench x = new Bench();
        int one = x.token(1);
        int two = x.token(2);
        int pair = x.then(one, two);
        int ahead = x.ahead(pair, one);
        int any = x.many(x.or(one, two));
        x.compileAs(0, x.then(x.or(ahead, two), any));
        ends("3: scanned", x.on, x.parse(1, 2), 0, 2, NONE);
        ends("3: not scanned, though START has the token", x.on, x.parse(1, 1), MISMATCH, 0, 2);
        ends("3: the scan meets the END", x.on, x.parse(1), MISMATCH, 0, 2);
        x.compileAs(0, x.then(x.maybe(ahead), two));
        ends("4: scanned", x.on, x.parse(1, 2), 0, 2, NONE);
        ends("4: not scanned", x.on, x.parse(1, 1), MISMATCH, 0, 2);
        x.compileAs(0, x.then(x.many(x.ahead(pair, pair)), one));
        ends("5: twice and no more", x.on, x.parse(1, 2, 1, 2, 1), 0, 5, NONE);
        x.compileAs(0, x.or(two, ahead));
        ends("b of 3 is not tried ahead", x.on, x.parse(1), 0, 1, NONE);
        x.compileAs(0, x.or(x.named(1, ahead), two));
        ends("an AHEAD inside a is not tried", x.on, x.parse(1), 0, 1, NONE);
        x.compileAs(0, x.maybe(x.ahead(x.nothing(), one)));
        ends("NOTHING is scanned even at the END", x.on, x.parse(), MISMATCH, 0, 1);
    }

    private static void chosenByStartOrFirst() {
        DOC.sentence("Terms", "else for 3 the TOKEN here is in START of a, for 4 and 5 in FIRST of a.");
        Bench x = new Bench();
        int one = x.token(1);
        int two = x.token(2);
        int open = x.maybe(one);
        x.compileAs(0, x.or(open, two));
        ends("3: the END is in START", x.on, x.parse(), 0, 0, NONE);
        ends("3: a token in FIRST", x.on, x.parse(1), 0, 1, NONE);
        ends("3: a token in neither", x.on, x.parse(2), 0, 1, NONE);
        x.compileAs(0, x.then(x.or(open, two), two));
        ends("3: a token in NEXT", x.on, x.parse(2), 0, 1, NONE);
        x.compileAs(0, x.then(x.maybe(open), two));
        ends("4: a token in NEXT", x.on, x.parse(2), 0, 1, NONE);
        DOC.same("4: does not choose", x.on.count(3), 3);
        x.compileAs(0, x.maybe(x.nothing()));
        ends("4: the END in NEXT", x.on, x.parse(), 0, 0, NONE);
        DOC.same("4: does not choose either", x.on.count(3), 1);
        x.compileAs(0, x.then(x.many(one), two));
        ends("5: a token in NEXT", x.on, x.parse(1, 2), 0, 2, NONE);
    }

    private static void scanningMakesNoTrees() {
        DOC.sentence("Terms", "SCANNING is done like parsing but makes no trees, and in it an AHEAD is CHOSEN like its b; "
            + "it succeeds if no error comes");
        Bench x = new Bench();
        int one = x.token(1);
        int rich = x.many(x.named(1, x.named(2, one)));
        x.compileAs(0, x.or(x.ahead(rich, x.many(one)), one));
        ends("a scan over 120 of both is not LARGE", x.on, x.parseRow(1, 40), 0, 40, NONE);
        DOC.same("only those of parsing", x.on.count(2), 40);
        DOC.same("the first is a leaf", x.on.tree(0, 0), 17);
        DOC.same("and begins at 0", x.on.tree(0, 2), 0);
        x.on.rule(1, x.then(rich, x.token(2)));
        x.compileAs(0, x.named(5, x.or(x.ahead(x.call(1), one), x.many(one))));
        ends("a scan that fails", x.on, x.parse(1, 1), 0, 2, NONE);
        DOC.same("leaves no trees", x.on.count(2), 3);
        DOC.same("nor parts", x.on.tree(0, 1), 2);
    }

    private static void aheadInScanning() {
        DOC.sentence("Terms", "in it an AHEAD is CHOSEN like its b;");
        Bench x = new Bench();
        int one = x.token(1);
        int two = x.token(2);
        int inner = x.or(x.ahead(two, one), two);
        x.compileAs(0, x.or(x.ahead(inner, x.named(1, one)), x.named(2, one)));
        ends("the token of b", x.on, x.parse(1), 0, 1, NONE);
        DOC.same("is scanned", x.on.tree(0, 0), 1);
        x.compileAs(0, x.or(x.ahead(inner, x.named(1, two)), x.named(2, two)));
        ends("the token of a", x.on, x.parse(2), 0, 1, NONE);
        DOC.same("is left to b of OR, and scanned too", x.on.tree(0, 0), 1);
        x.compileAs(0, inner);
        ends("while parsing tries a", x.on, x.parse(1), MISMATCH, 0, 2);
        sharedAheadInScanning();
    }

    /** START of an AHEAD and of its b differ where b stands elsewhere, too. */
    private static void sharedAheadInScanning() {
        for (int aheads = 1; aheads <= 2; aheads++) {
            Bench x = new Bench();
            int three = x.token(3);
            int shared = x.maybe(x.token(1));
            int tried = x.ahead(x.token(4), shared);
            if (aheads == 2) {
                tried = x.ahead(x.token(4), tried);
            }
            x.on.rule(1, x.or(tried, x.token(2)));
            x.on.rule(2, x.or(x.ahead(x.call(1), x.named(1, three)), x.named(2, three)));
            x.compileAs(0, x.then(x.then(shared, three), x.call(2)));
            ends("a token in START of b alone, " + aheads, x.on, x.parse(3, 3), 0, 2, NONE);
            DOC.same("is like b", x.on.tree(1, 0), 1);
        }
    }

    private static void deepCountsFromParsingOn() {
        DOC.sentence("Terms", "(DEEP counts calls from parsing on).");
        // Rules 1 to 5 call the next; rule 6 tries so many calls of 7 ahead, each in the other.
        for (int root = 1; root <= 6; root++) {
            Bench x = new Bench();
            int one = x.token(1);
            for (int r = 1; r < 6; r++) {
                x.on.rule(r, x.call(r + 1));
            }
            int any = x.many(one);
            x.on.rule(7, x.then(one, x.maybe(x.call(7))));
            x.on.rule(6, x.or(x.ahead(x.call(7), x.named(1, any)), x.named(2, any)));
            x.on.compile(root);
            int underWay = 6 - root;
            ends("as many as are left, under way " + underWay, x.on, x.parseRow(1, 6 - underWay), 0, 6 - underWay, NONE);
            DOC.same("they are scanned", x.on.tree(0, 0), 1);
            ends("one more, under way " + underWay, x.on, x.parseRow(1, 7 - underWay), 0, 7 - underWay, NONE);
            DOC.same("DEEP makes the scan fail", x.on.tree(0, 0), 2);
        }
    }

    private static void eachNodeCountsAStep() {
        DOC.sentence("Terms", "Each node parsed or SCANNED counts 1 STEP each time;");
        Bench x = new Bench();
        int one = x.token(1);
        x.on.rule(1, one);
        int[] parts = {one, x.call(1), x.maybe(one), x.many(one), x.named(0, one), x.ahead(one, one), x.or(one, one)};
        int[] steps = {1, 2, 2, 2, 2, 2, 2};
        for (int i = 0; i < parts.length; i++) {
            x.compileAs(0, parts[i]);
            DOC.same("parse " + i, x.parse(1), 0);
            DOC.same("steps of " + i, x.on.count(3), steps[i]);
            x.compileAs(0, x.or(x.ahead(parts[i], one), one));
            DOC.same("parse ahead " + i, x.parse(1), 0);
            DOC.same("steps of or; scanned " + i + "; ahead, token", x.on.count(3), 1 + steps[i] + 2);
        }
        x.compileAs(0, x.then(one, one));
        x.parse(1, 1);
        DOC.same("a node that stands twice counts twice", x.on.count(3), 3);
        x.parse(2);
        DOC.same("the node that meets the error counts", x.on.count(3), 2);
        x.parse(1, 1, 1);
        DOC.same("the END behind the ROOT counts nothing", x.on.count(3), 3);
    }

    private static void tiredIf1500WereCounted() {
        DOC.sentence("Terms", "if 1500 were counted: the error TIRED (which ends SCANNING and parsing).");
        for (int more = 0; more <= 4; more++) {
            Bench x = new Bench();
            x.compileAs(0, x.idleLong(more));
            int steps = 1498 + more;
            ends(steps + " steps", x.on, x.parse(), steps <= 1500 ? 0 : TIRED, 0, NONE);
            DOC.same(steps + " steps, counted", x.on.count(3), Math.min(steps, 1500));
        }
        Bench x = new Bench();
        x.on.rule(4, x.then(x.token(1), x.call(5)));
        x.on.rule(5, x.idleLong(0));
        int one = x.token(1);
        x.compileAs(0, x.or(x.ahead(x.call(4), one), one));
        ends("TIRED in SCANNING is no mere failure to scan", x.on, x.parse(1), TIRED, 1, NONE);
        DOC.same("steps", x.on.count(3), 1500);
        x.compileAs(0, x.or(one, x.call(4)));
        ends("counted anew in each parse", x.on, x.parse(1), 0, 1, NONE);
        DOC.same("steps of the new one", x.on.count(3), 2);
    }

    private static void endBehindTheRoot() {
        DOC.sentence("Terms", "After the ROOT's node the END must be here, else MISMATCH.");
        Bench x = new Bench();
        x.compileAs(0, x.token(1));
        ends("the END is here", x.on, x.parse(1), 0, 1, NONE);
        ends("a token is here", x.on, x.parse(1, 1), MISMATCH, 1, END);
        DOC.same("there are no trees then", x.on.count(2), 0);
        x.compileAs(0, x.nothing());
        ends("no token at all", x.on, x.parse(), 0, 0, NONE);
        ends("forty tokens too many", x.on, x.parseRow(9, 40), MISMATCH, 0, END);
        Bench y = new Bench();
        y.compileAs(0, y.idleLong(2));
        ends("behind 1500 steps", y.on, y.parse(3), MISMATCH, 0, END);
        DOC.same("it counts no step", y.on.count(3), 1500);
    }

    private static void treeIs(ParserGenerator g, int i, int label, int parts, int place) {
        DOC.same("label of " + i, g.tree(i, 0), label);
        DOC.same("parts of " + i, g.tree(i, 1), parts);
        DOC.same("place of " + i, g.tree(i, 2), place);
    }

    private static void treeInItsOrder() {
        DOC.sentence("Terms", "The TREE, in the order in which it is begun: for each TOKEN parsed a leaf with the label 16 + "
            + "token, for each NAMED a tree with all leaves and trees made by its b that are in no other tree inside it as "
            + "parts;");
        Bench x = new Bench();
        int low = x.token(0);
        int high = x.token(9);
        int empty = x.named(0, x.nothing());
        x.on.rule(1, x.named(15, x.then(low, empty)));
        int inner = x.call(1);
        x.compileAs(0, x.then(high, x.named(7, x.then(inner, x.then(high, empty)))));
        DOC.same("parse", x.parse(9, 0, 9), 0);
        DOC.same("of both", x.on.count(2), 7);
        treeIs(x.on, 0, 25, 0, 0);
        treeIs(x.on, 1, 7, 3, 1);
        treeIs(x.on, 2, 15, 2, 1);
        treeIs(x.on, 3, 16, 0, 1);
        treeIs(x.on, 4, 0, 0, 2);
        treeIs(x.on, 5, 25, 0, 2);
        treeIs(x.on, 6, 0, 0, 3);
        x.compileAs(0, x.nothing());
        DOC.same("parse of nothing", x.parse(), 0);
        DOC.same("no tree at all", x.on.count(2), 0);
    }

    private static void moreThan90AreLarge() {
        DOC.sentence("Terms", "more than 90 of both: the error LARGE.");
        Bench x = new Bench();
        int one = x.token(1);
        int three = x.named(1, x.named(2, one));
        x.compileAs(0, x.many(three));
        ends("90 of both", x.on, x.parseRow(1, 30), 0, 30, NONE);
        DOC.same("all are kept", x.on.count(2), 90);
        treeIs(x.on, 89, 17, 0, 29);
        ends("a tree is the 91st", x.on, x.parseRow(1, 31), LARGE, 30, NONE);
        DOC.same("none is kept", x.on.count(2), 0);
        x.compileAs(0, x.then(x.named(3, x.nothing()), x.many(three)));
        ends("a leaf is the 91st", x.on, x.parseRow(1, 30), LARGE, 29, NONE);
        x.compileAs(0, x.then(x.many(three), x.named(3, x.nothing())));
        ends("an empty tree is the 91st, behind all tokens", x.on, x.parseRow(1, 30), LARGE, 30, NONE);
        x.on.rule(1, x.idleNamed(6));
        int sixteen = x.call(1);
        int pads = x.then(x.then(sixteen, sixteen), sixteen);
        x.compileAs(0, x.then(pads, x.many(one)));
        ends("88 of both by leaves", x.on, x.parseRow(1, 40), 0, 40, NONE);
        DOC.same("88 are kept", x.on.count(2), 88);
        int two = x.then(x.named(1, x.nothing()), x.named(2, x.nothing()));
        x.compileAs(0, x.then(two, x.then(pads, x.many(one))));
        ends("90 of both by leaves", x.on, x.parseRow(1, 40), 0, 40, NONE);
        x.compileAs(0, x.then(x.named(0, two), x.then(pads, x.many(one))));
        ends("a leaf behind leaves is the 91st", x.on, x.parseRow(1, 40), LARGE, 39, NONE);
        ends("one leaf fewer", x.on, x.parseRow(1, 39), 0, 39, NONE);
        int pair = x.many(x.named(2, one));
        x.compileAs(0, pair);
        ends("80 of both from forty tokens", x.on, x.parseRow(1, 40), 0, 40, NONE);
        DOC.same("all of these are kept", x.on.count(2), 80);
    }

    private static void theConstants() {
        DOC.sentence("Terms", "The constants: `MISMATCH = -6`, `DEEP = -7`, `TIRED = -8`, `LARGE = -9`, `NONE = -10`: "
            + "Errors of parse.");
        DOC.same("MISMATCH", MISMATCH, -6);
        DOC.same("DEEP", DEEP, -7);
        DOC.same("TIRED", TIRED, -8);
        DOC.same("LARGE", LARGE, -9);
        DOC.same("NONE", NONE, -10);
        DOC.sentence("The public face", "public static final int REFUSED = -1;");
        DOC.same("REFUSED", REFUSED, -1);
        DOC.same("FULL", FULL, -2);
        DOC.same("UNDEFINED", UNDEFINED, -3);
        DOC.same("RECURSIVE", RECURSIVE, -4);
        DOC.same("ENDLESS", ENDLESS, -5);
    }
}
