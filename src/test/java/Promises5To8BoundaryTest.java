/** The sentences of the promises 5 to 8 (empty, first, next, clash) that name a boundary case. */
public final class Promises5To8BoundaryTest {
    private static final int REFUSED = ParserGenerator.REFUSED;
    private static final int END = 1 << 10;

    private static final Sentences DOC = new Sentences();

    public static void main(String[] args) {
        promise5Whether1Or0();
        promise5RefusedIfNothingIsCompiled();
        promise5RefusedIfNotUsed();
        promise5SoForTheNextThree();
        promise6First();
        promise7Next();
        promise8ClashOfOr();
        promise8ClashOfMaybeAndMany();
        promise8ClashOfOthers();
        DOC.end("Promises5To8BoundaryTest");
    }

    private static void promise5Whether1Or0() {
        DOC.sentence("Promise 5: empty", "Whether the node is EMPTY-ABLE: 1 or 0;");
        Bench x = new Bench();
        int one = x.token(1);
        int none = x.nothing();
        int called = x.call(1);
        int[] nodes = {
            one, none, x.maybe(one), x.many(one), x.then(one, one), x.then(one, none), x.then(none, one),
            x.then(none, none), x.or(one, one), x.or(one, none), x.or(none, one), x.or(none, none), x.ahead(one, none),
            x.ahead(none, one), x.named(0, none), x.named(0, one), called
        };
        int[] due = {0, 1, 1, 1, 0, 0, 0, 1, 0, 1, 1, 1, 1, 0, 1, 0, 1};
        x.on.rule(1, none);
        for (int i = 0; i < nodes.length; i++) {
            x.compileAs(0, nodes[i]);
            DOC.same("the node " + i + " of the row", x.on.empty(nodes[i]), due[i]);
        }
        x.on.rule(1, one);
        x.compileAs(0, called);
        DOC.same("a call of what is not", x.on.empty(called), 0);
    }

    private static void refused(String why, ParserGenerator g, int node) {
        DOC.same(why + ": empty(" + node + ")", g.empty(node), REFUSED);
        DOC.same(why + ": first(" + node + ")", g.first(node), REFUSED);
        DOC.same(why + ": next(" + node + ")", g.next(node), REFUSED);
        DOC.same(why + ": clash(" + node + ")", g.clash(node), REFUSED);
    }

    private static void answered(String why, ParserGenerator g, int node, int empty, int first, int next) {
        DOC.same(why + ": empty(" + node + ")", g.empty(node), empty);
        DOC.same(why + ": first(" + node + ")", g.first(node), first);
        DOC.same(why + ": next(" + node + ")", g.next(node), next);
    }

    private static void promise5RefusedIfNothingIsCompiled() {
        DOC.sentence("Promise 5: empty", "REFUSED if nothing is compiled or the node is not USED.");
        Bench x = new Bench();
        refused("no nodes", x.on, 0);
        int one = x.token(1);
        refused("no rules", x.on, one);
        x.on.rule(0, one);
        refused("not compiled yet", x.on, one);
        x.on.compile(0);
        answered("compiled", x.on, one, 0, 2, END);
        x.on.compile(1);
        refused("compiled no more", x.on, one);
    }

    private static void promise5RefusedIfNotUsed() {
        DOC.sentence("Promise 5: empty", "or the node is not USED.");
        Bench x = new Bench();
        int before = x.token(1);
        int one = x.maybe(x.token(2));
        int above = x.then(one, before);
        x.compileAs(0, one);
        refused("made before it", x.on, before);
        refused("made of it", x.on, above);
        answered("itself", x.on, one, 1, 4, END);
        answered("its operand", x.on, one - 1, 0, 4, END);
        for (int node : Numbers.outside(4)) {
            refused("no such node", x.on, node);
        }
        int later = x.token(3);
        refused("made later", x.on, later);
        x.on.rule(1, before);
        refused("a rule's node that is not called", x.on, before);
        x.on.compile(1);
        answered("once it is the ROOT's", x.on, before, 0, 2, END);
        refused("and the other is not USED", x.on, one);
    }

    private static void promise5SoForTheNextThree() {
        DOC.sentence("Promise 5: empty", "So for the next three.");
        Bench x = new Bench();
        int one = x.token(1);
        int stray = x.many(one);
        x.on.rule(0, one);
        DOC.same("nothing compiled: first", x.on.first(one), REFUSED);
        DOC.same("nothing compiled: next", x.on.next(one), REFUSED);
        DOC.same("nothing compiled: clash", x.on.clash(one), REFUSED);
        x.on.compile(0);
        DOC.same("not USED: first", x.on.first(stray), REFUSED);
        DOC.same("not USED: next", x.on.next(stray), REFUSED);
        DOC.same("not USED: clash", x.on.clash(stray), REFUSED);
        DOC.same("USED: first", x.on.first(one), 2);
        DOC.same("USED: next", x.on.next(one), END);
        DOC.same("USED: clash", x.on.clash(one), 0);
    }

    private static void promise6First() {
        DOC.sentence("Promise 6: first", "FIRST of the node.");
        for (int t = 0; t <= 9; t++) {
            Bench x = new Bench();
            x.compileAs(0, x.token(t));
            DOC.same("token " + t, x.on.first(0), 1 << t);
        }
        Bench x = new Bench();
        int all = x.nothing();
        for (int t = 0; t <= 4; t++) {
            all = x.or(x.token(t), all);
        }
        x.on.rule(1, all);
        int rest = x.call(1);
        for (int t = 5; t <= 9; t++) {
            rest = x.or(x.token(t), rest);
        }
        x.compileAs(0, rest);
        DOC.same("no token", x.on.first(0), 0);
        DOC.same("the tokens 0 to 4", x.on.first(all), 31);
        DOC.same("all ten", x.on.first(rest), 1023);
        DOC.same("the END is in no FIRST", x.on.first(rest) & END, 0);
    }

    private static void promise7Next() {
        DOC.sentence("Promise 7: next", "NEXT of the node.");
        Bench x = new Bench();
        int one = x.token(1);
        int two = x.token(2);
        int many = x.many(two);
        int tried = x.token(3);
        int root = x.then(one, x.ahead(tried, many));
        x.compileAs(0, root);
        DOC.same("the ROOT", x.on.next(root), END);
        DOC.same("in front of the last", x.on.next(one), 4 + END);
        DOC.same("what comes again and again", x.on.next(two), 4 + END);
        DOC.same("the empty set", x.on.next(tried), 0);
        int self = x.call(1);
        int ring = x.or(x.then(x.token(0), x.then(self, x.token(9))), one);
        x.compileAs(1, ring);
        DOC.same("the token 9 and the END", x.on.next(ring), 512 + END);
        DOC.same("the token 9 alone", x.on.next(self), 512);
    }

    private static void promise8ClashOfOr() {
        DOC.sentence("Promise 8: clash", "For 3: the set of tokens in START of a and of b;");
        Bench x = new Bench();
        int one = x.token(1);
        int two = x.token(2);
        int apart = x.or(one, two);
        int twice = x.or(one, one);
        int both = x.or(apart, twice);
        x.compileAs(0, both);
        DOC.same("none in both", x.on.clash(apart), 0);
        DOC.same("the same on both sides", x.on.clash(twice), 2);
        DOC.same("one in both", x.on.clash(both), 2);
        int open = x.or(x.maybe(one), x.many(one));
        x.compileAs(0, open);
        DOC.same("FIRST and NEXT in both", x.on.clash(open), 2 + END);
        x.compileAs(0, x.then(open, two));
        DOC.same("NEXT is that of here", x.on.clash(open), 2 + 4);
        int onlyA = x.or(x.maybe(one), two);
        x.compileAs(0, x.then(onlyA, two));
        DOC.same("NEXT of a with FIRST of b", x.on.clash(onlyA), 4);
        int onlyB = x.or(two, x.maybe(one));
        x.compileAs(0, x.then(onlyB, two));
        DOC.same("FIRST of a with NEXT of b", x.on.clash(onlyB), 4);
    }

    private static void promise8ClashOfMaybeAndMany() {
        DOC.sentence("Promise 8: clash", "for 4 and 5: of those in FIRST of a and in NEXT of the node;");
        Bench x = new Bench();
        int one = x.token(1);
        int two = x.token(2);
        for (int node : new int[] {x.maybe(one), x.many(one)}) {
            x.compileAs(0, node);
            DOC.same("at the END", x.on.clash(node), 0);
            x.compileAs(0, x.then(node, two));
            DOC.same("before another token", x.on.clash(node), 0);
            x.compileAs(0, x.then(node, one));
            DOC.same("before the same token", x.on.clash(node), 2);
            x.compileAs(0, x.then(node, x.then(node, x.or(one, two))));
            DOC.same("before itself", x.on.clash(node), 2);
        }
        int deep = x.maybe(x.maybe(one));
        x.compileAs(0, x.then(deep, two));
        DOC.same("FIRST of an EMPTY-ABLE a, not its START", x.on.clash(deep), 0);
        x.compileAs(0, x.maybe(x.nothing()));
        DOC.same("no FIRST", x.on.count(4), 0);
    }

    private static void promise8ClashOfOthers() {
        DOC.sentence("Promise 8: clash", "for others 0.");
        Bench x = new Bench();
        int one = x.token(1);
        int maybe = x.maybe(one);
        x.on.rule(1, maybe);
        int[] others = {one, x.call(1), x.then(maybe, maybe), x.nothing(), x.ahead(one, maybe), x.named(1, maybe)};
        for (int node : others) {
            x.compileAs(0, x.then(node, x.then(node, one)));
            DOC.same("node " + node, x.on.clash(node), 0);
        }
    }
}
