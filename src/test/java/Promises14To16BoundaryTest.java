/** The sentences of the promises 14 to 16 (tree, count, order and limits) that name a boundary case. */
public final class Promises14To16BoundaryTest {
    private static final int REFUSED = ParserGenerator.REFUSED;
    private static final int MISMATCH = ParserGenerator.MISMATCH;
    private static final int TIRED = ParserGenerator.TIRED;
    private static final int NONE = ParserGenerator.NONE;

    private static final Sentences DOC = new Sentences();

    public static void main(String[] args) {
        promise14TreeIFrom0();
        promise14PartsOfALeaf();
        promise14PlaceWhereItBegins();
        promise14NoneIfThereIsNone();
        promise14NoSuchTree();
        promise14RefusedForAnotherWhat();
        promise15Nodes();
        promise15Tokens();
        promise15Trees();
        promise15Steps();
        promise15Clashes();
        promise15Used();
        promise15NothingCompiled();
        promise15ElseRefused();
        promise16NoTreeBehindAnError();
        promise16TiredAtThe1501stStep();
        DOC.end("Promises14To16BoundaryTest");
    }

    private static void promise14TreeIFrom0() {
        DOC.sentence("Promise 14: tree", "Of tree i, from 0, of the last parse without an error: its label (what 0)");
        Bench x = new Bench();
        x.compileAs(0, x.many(x.named(15, x.named(0, x.or(x.token(0), x.token(9))))));
        x.parseRow(0, 29);
        x.on.feed(9);
        DOC.same("ninety of both", x.on.parse(), 0);
        DOC.same("tree 0", x.on.tree(0, 0), 15);
        DOC.same("tree 1", x.on.tree(1, 0), 0);
        DOC.same("tree 2", x.on.tree(2, 0), 16);
        DOC.same("tree 89", x.on.tree(89, 0), 25);
        DOC.same("tree 90", x.on.tree(90, 0), NONE);
        x.parse(9);
        DOC.same("of the last parse", x.on.tree(2, 0), 25);
        DOC.same("and of no other", x.on.tree(3, 0), NONE);
    }

    private static void promise14PartsOfALeaf() {
        DOC.sentence("Promise 14: tree", "how many parts it has (1; 0 for a leaf)");
        Bench x = new Bench();
        int inner = x.named(2, x.token(1));
        x.compileAs(0, x.then(x.named(1, x.many(inner)), x.named(3, x.nothing())));
        x.parseRow(1, 40);
        DOC.same("a tree of forty", x.on.tree(0, 1), 40);
        DOC.same("a tree of one", x.on.tree(1, 1), 1);
        DOC.same("a leaf", x.on.tree(2, 1), 0);
        DOC.same("a tree of none", x.on.tree(81, 1), 0);
        x.parse();
        DOC.same("the same tree of none", x.on.tree(0, 1), 0);
    }

    private static void promise14PlaceWhereItBegins() {
        DOC.sentence("Promise 14: tree", "the place in the input where it begins (2).");
        Bench x = new Bench();
        x.compileAs(0, x.then(x.named(1, x.many(x.token(1))), x.named(3, x.nothing())));
        x.parseRow(1, 40);
        DOC.same("at the beginning", x.on.tree(0, 2), 0);
        DOC.same("the first leaf", x.on.tree(1, 2), 0);
        DOC.same("the last leaf", x.on.tree(40, 2), 39);
        DOC.same("at the END", x.on.tree(41, 2), 40);
        x.parse();
        DOC.same("in an empty input", x.on.tree(1, 2), 0);
    }

    private static void noTree(String why, ParserGenerator g, int i) {
        for (int what = 0; what <= 2; what++) {
            DOC.same(why + ": tree(" + i + ", " + what + ")", g.tree(i, what), NONE);
        }
    }

    private static void promise14NoneIfThereIsNone() {
        DOC.sentence("Promise 14: tree", "NONE if there is none or no such tree;");
        Bench x = new Bench();
        noTree("no parse", x.on, 0);
        x.parse(1);
        noTree("a refused parse", x.on, 0);
        x.compileAs(0, x.token(1));
        noTree("compiled", x.on, 0);
        x.parse(2);
        noTree("a parse with an error", x.on, 0);
        x.compileAs(0, x.nothing());
        x.parse();
        noTree("a parse that makes no tree", x.on, 0);
    }

    private static void promise14NoSuchTree() {
        DOC.sentence("Promise 14: tree", "or no such tree;");
        Bench x = new Bench();
        x.compileAs(0, x.named(4, x.token(1)));
        x.parse(1);
        DOC.same("the last there is", x.on.tree(1, 0), 17);
        for (int i : Numbers.outside(2)) {
            noTree("two trees", x.on, i);
        }
        noTree("the most there could be", x.on, 89);
        noTree("one more", x.on, 90);
    }

    private static void promise14RefusedForAnotherWhat() {
        DOC.sentence("Promise 14: tree", "REFUSED for another what.");
        Bench x = new Bench();
        DOC.same("no parse", x.on.tree(0, 3), REFUSED);
        x.compileAs(0, x.named(4, x.token(1)));
        x.parse(1);
        for (int what : Numbers.outside(3)) {
            DOC.same("what " + what, x.on.tree(0, what), REFUSED);
            DOC.same("no such tree, what " + what, x.on.tree(2, what), REFUSED);
            DOC.same("a tree below 0, what " + what, x.on.tree(-1, what), REFUSED);
        }
        DOC.same("what 0", x.on.tree(0, 0), 4);
        DOC.same("what 2", x.on.tree(0, 2), 0);
        x.parse(2);
        DOC.same("behind an error, another what", x.on.tree(0, 3), REFUSED);
        DOC.same("behind an error, what -1", x.on.tree(0, -1), REFUSED);
    }

    private static void promise15Nodes() {
        DOC.sentence("Promise 15: count", "0: nodes;");
        ParserGenerator g = new ParserGenerator();
        DOC.same("none", g.count(0), 0);
        for (int i = 1; i <= 60; i++) {
            g.node(6, 0, 0);
            DOC.same("nodes", g.count(0), i);
        }
        g.node(6, 0, 0);
        DOC.same("no more than sixty", g.count(0), 60);
    }

    private static void promise15Tokens() {
        DOC.sentence("Promise 15: count", "1: TOKENS of the input;");
        ParserGenerator g = new ParserGenerator();
        DOC.same("none", g.count(1), 0);
        for (int i = 1; i <= 40; i++) {
            g.feed(0);
            DOC.same("tokens", g.count(1), i);
        }
        g.feed(0);
        DOC.same("no more than forty", g.count(1), 40);
        g.wipe();
        DOC.same("wiped", g.count(1), 0);
    }

    private static void promise15Trees() {
        DOC.sentence("Promise 15: count", "2: trees and leaves of the last parse, 0 if it had an error;");
        Bench x = new Bench();
        DOC.same("no parse", x.on.count(2), 0);
        x.compileAs(0, x.many(x.named(1, x.named(2, x.token(1)))));
        x.parse();
        DOC.same("none", x.on.count(2), 0);
        x.parseRow(1, 30);
        DOC.same("ninety", x.on.count(2), 90);
        x.on.wipe();
        x.on.compile(7);
        x.on.parse();
        DOC.same("behind a refused parse", x.on.count(2), 90);
        x.on.compile(0);
        x.parseRow(1, 31);
        DOC.same("LARGE", x.on.count(2), 0);
        x.parse(1);
        DOC.same("three", x.on.count(2), 3);
        x.parse(1, 2);
        DOC.same("MISMATCH behind the ROOT's node", x.on.count(2), 0);
    }

    private static void promise15Steps() {
        DOC.sentence("Promise 15: count", "3: STEPS of the last parse;");
        Bench x = new Bench();
        DOC.same("no parse", x.on.count(3), 0);
        x.compileAs(0, x.many(x.token(1)));
        DOC.same("compiled", x.on.count(3), 0);
        x.parse();
        DOC.same("one", x.on.count(3), 1);
        x.parseRow(1, 40);
        DOC.same("of the last parse, not of all", x.on.count(3), 41);
        x.on.compile(7);
        x.on.parse();
        DOC.same("behind a refused parse", x.on.count(3), 41);
        x.compileAs(0, x.token(1));
        x.parse(2);
        DOC.same("of a parse with an error", x.on.count(3), 1);
    }

    private static void promise15Clashes() {
        DOC.sentence("Promise 15: count", "4: USED nodes with a clash;");
        Bench x = new Bench();
        int one = x.token(1);
        int or = x.or(one, one);
        int maybe = x.maybe(one);
        x.compileAs(0, one);
        DOC.same("none that is USED", x.on.count(4), 0);
        x.compileAs(0, or);
        DOC.same("one", x.on.count(4), 1);
        x.compileAs(0, x.then(maybe, x.then(maybe, or)));
        DOC.same("each node once", x.on.count(4), 2);
        int open = x.or(x.maybe(one), x.nothing());
        x.compileAs(0, open);
        DOC.same("a clash of the END alone", x.on.clash(open), 1024);
        DOC.same("counts", x.on.count(4), 1);
    }

    private static void promise15Used() {
        DOC.sentence("Promise 15: count", "5: USED nodes;");
        Bench x = new Bench();
        int one = x.token(1);
        x.token(2);
        x.compileAs(0, one);
        DOC.same("one", x.on.count(5), 1);
        x.on.rule(0, x.then(one, one));
        DOC.same("a new rule is not compiled", x.on.count(5), 1);
        x.on.compile(0);
        DOC.same("compiled", x.on.count(5), 2);
        x.on.compile(8);
        DOC.same("a refused compile", x.on.count(5), 2);
    }

    private static void promise15NothingCompiled() {
        DOC.sentence("Promise 15: count", "4, 5: 0 if nothing is compiled.");
        Bench x = new Bench();
        int one = x.token(1);
        x.on.rule(0, x.or(one, one));
        DOC.same("not yet: 4", x.on.count(4), 0);
        DOC.same("not yet: 5", x.on.count(5), 0);
        x.on.compile(0);
        DOC.same("compiled: 4", x.on.count(4), 1);
        DOC.same("compiled: 5", x.on.count(5), 2);
        x.parse(1);
        x.on.compile(7);
        DOC.same("no more: 4", x.on.count(4), 0);
        DOC.same("no more: 5", x.on.count(5), 0);
        DOC.same("the trees stay", x.on.count(2), 1);
        DOC.same("the steps stay", x.on.count(3), 2);
    }

    private static void promise15ElseRefused() {
        DOC.sentence("Promise 15: count", "Else REFUSED.");
        Bench x = new Bench();
        for (int what : Numbers.outside(6)) {
            DOC.same("a new object: count(" + what + ")", x.on.count(what), REFUSED);
        }
        x.compileAs(0, x.token(1));
        x.parse(1);
        for (int what : Numbers.outside(6)) {
            DOC.same("behind a parse: count(" + what + ")", x.on.count(what), REFUSED);
        }
        for (int what = 0; what <= 5; what++) {
            DOC.same("count(" + what + ")", x.on.count(what), what == 4 ? 0 : 1);
        }
    }

    private static void promise16NoTreeBehindAnError() {
        DOC.sentence("Promise 16: Order and limits", "tree: behind a parse that had an error there is no tree (NONE) until one "
            + "has none again.");
        Bench x = new Bench();
        x.compileAs(0, x.named(7, x.then(x.token(1), x.token(2))));
        x.parse(1, 2);
        DOC.same("a tree", x.on.tree(0, 0), 7);
        DOC.same("an error", x.parse(1, 1), MISMATCH);
        noTree("behind it", x.on, 0);
        noTree("nor a leaf of it", x.on, 1);
        DOC.same("another error", x.parse(1, 2, 2), MISMATCH);
        noTree("behind two", x.on, 0);
        x.on.compile(7);
        DOC.same("a refused parse", x.parse(1, 2), REFUSED);
        noTree("behind a refused one", x.on, 0);
        x.on.compile(0);
        noTree("behind compile", x.on, 0);
        DOC.same("none again", x.on.parse(), 0);
        DOC.same("a tree again", x.on.tree(0, 0), 7);
        DOC.same("with its parts alone", x.on.tree(0, 1), 2);
        DOC.same("and its leaves", x.on.tree(2, 0), 18);
        DOC.same("and no more", x.on.tree(3, 0), NONE);
    }

    private static void promise16TiredAtThe1501stStep() {
        DOC.sentence("Promise 16: Order and limits", "TIRED comes where a 1501st STEP would be counted.");
        Bench x = new Bench();
        x.on.rule(4, x.idleLong(0));
        int call = x.call(4);
        int one = x.token(1);
        tired(x, "the 1499th is the last", call, 0, 0, 1499);
        tired(x, "the 1500th is the last", x.named(6, call), 0, 0, 1500);
        tired(x, "the 1501st is NOTHING", x.then(call, x.nothing()), TIRED, 0, 1500);
        tired(x, "the 1501st is a token that fits", x.then(call, one), TIRED, 0, 1500);
        tired(x, "the 1501st is a token that does not fit", x.then(call, x.token(2)), TIRED, 0, 1500);
        tired(x, "the 1501st is in the called rule", x.then(one, call), TIRED, 1, 1500);
        x.on.rule(5, call);
        tired(x, "the 1500th of two calls", x.call(5), MISMATCH, 0, 1500);
    }

    private static void tired(Bench x, String what, int node, int error, int place, int steps) {
        x.compileAs(0, node);
        boolean fits = error == 0;
        DOC.same(what, fits ? x.parse() : x.parse(1), error);
        DOC.same(what + ": place", x.on.place(), place);
        DOC.same(what + ": due", x.on.due(), error == MISMATCH ? 10 : NONE);
        DOC.same(what + ": steps", x.on.count(3), steps);
    }
}
