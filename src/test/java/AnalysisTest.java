/** Promises 5 to 8, and counts 4 and 5 of 15: empty, first, next, clash. */
public final class AnalysisTest {
    private static final int REFUSED = ParserGenerator.REFUSED;
    private static final int END = 1 << 10;

    private static final Check CHECK = new Check();

    public static void main(String[] args) {
        refused();
        emptyByKind();
        emptyByCalls();
        firstByKind();
        firstByCalls();
        nextByKind();
        nextOfSharedNodes();
        nextOfRules();
        nextAndAhead();
        clashOfOr();
        clashOfMaybeAndMany();
        noClashOfOthers();
        compiledAnew();
        callAsTheFirstNode();
        CHECK.end("AnalysisTest");
    }

    private static void all(String what, ParserGenerator g, int node, int empty, int first, int next) {
        CHECK.same(what + ": empty", g.empty(node), empty);
        CHECK.same(what + ": first", g.first(node), first);
        CHECK.same(what + ": next", g.next(node), next);
    }

    private static void refused() {
        Bench x = new Bench();
        int one = x.token(1);
        x.on.rule(0, one);
        int stray = x.token(2);
        refusedFor("nothing compiled", x.on, one);
        x.on.compile(0);
        refusedFor("not used", x.on, stray);
        for (int no : new int[] {Integer.MIN_VALUE, -1, 2, 59, 60, 61, Integer.MAX_VALUE}) {
            refusedFor("no node " + no, x.on, no);
        }
        all("the node itself", x.on, one, 0, 2, END);
    }

    private static void refusedFor(String why, ParserGenerator g, int node) {
        all(why, g, node, REFUSED, REFUSED, REFUSED);
        CHECK.same(why + ": clash", g.clash(node), REFUSED);
    }

    private static int emptyAs(Bench x, int node) {
        x.compileAs(0, node);
        return x.on.empty(node);
    }

    private static void emptyByKind() {
        Bench x = new Bench();
        int t = x.token(1);
        int e = x.nothing();
        CHECK.same("token", emptyAs(x, t), 0);
        CHECK.same("nothing", emptyAs(x, e), 1);
        CHECK.same("then, neither", emptyAs(x, x.then(t, t)), 0);
        CHECK.same("then, a", emptyAs(x, x.then(e, t)), 0);
        CHECK.same("then, b", emptyAs(x, x.then(t, e)), 0);
        CHECK.same("then, both", emptyAs(x, x.then(e, e)), 1);
        CHECK.same("or, neither", emptyAs(x, x.or(t, t)), 0);
        CHECK.same("or, a", emptyAs(x, x.or(e, t)), 1);
        CHECK.same("or, b", emptyAs(x, x.or(t, e)), 1);
        CHECK.same("maybe", emptyAs(x, x.maybe(t)), 1);
        CHECK.same("many", emptyAs(x, x.many(t)), 1);
        CHECK.same("ahead, a", emptyAs(x, x.ahead(e, t)), 0);
        CHECK.same("ahead, b", emptyAs(x, x.ahead(t, e)), 1);
        CHECK.same("named, empty", emptyAs(x, x.named(0, e)), 1);
        CHECK.same("named, not empty", emptyAs(x, x.named(1, t)), 0);
    }

    private static void emptyByCalls() {
        Bench x = new Bench();
        int one = x.token(1);
        int self = x.call(0);
        int loop = x.then(one, self);
        x.compileAs(0, loop);
        CHECK.same("the least set leaves a loop out", x.on.empty(self), 0);
        x.compileAs(0, x.or(loop, x.nothing()));
        CHECK.same("a call of what can be empty", x.on.empty(self), 1);
        CHECK.same("behind a token it is not", x.on.empty(loop), 0);
        int early = x.call(1);
        x.on.rule(1, x.call(2));
        x.on.rule(2, x.maybe(one));
        CHECK.same("by way of later nodes", emptyAs(x, early), 1);
    }

    private static int firstAs(Bench x, int node) {
        x.compileAs(0, node);
        return x.on.first(node);
    }

    private static void firstByKind() {
        Bench x = new Bench();
        int t0 = x.token(0);
        int t9 = x.token(9);
        CHECK.same("token 0", firstAs(x, t0), 1);
        CHECK.same("token 9", firstAs(x, t9), 512);
        CHECK.same("nothing", firstAs(x, x.nothing()), 0);
        CHECK.same("then", firstAs(x, x.then(t0, t9)), 1);
        CHECK.same("then, empty a", firstAs(x, x.then(x.maybe(t0), t9)), 513);
        CHECK.same("or", firstAs(x, x.or(t0, t9)), 513);
        CHECK.same("maybe", firstAs(x, x.maybe(t9)), 512);
        CHECK.same("many", firstAs(x, x.many(t9)), 512);
        CHECK.same("ahead", firstAs(x, x.ahead(t0, t9)), 512);
        CHECK.same("named", firstAs(x, x.named(0, t9)), 512);
    }

    private static void firstByCalls() {
        Bench x = new Bench();
        int one = x.token(1);
        int far = x.call(1);
        x.on.rule(1, x.then(x.maybe(one), x.call(2)));
        x.on.rule(2, x.or(x.call(3), x.token(4)));
        x.on.rule(3, x.token(8));
        CHECK.same("by way of rules made later", firstAs(x, far), 2 + 16 + 256);
    }

    private static void nextByKind() {
        Bench x = new Bench();
        int one = x.token(1);
        int maybe = x.maybe(x.token(2));
        int three = x.token(3);
        int pair = x.then(maybe, three);
        int root = x.then(one, pair);
        x.compileAs(0, root);
        CHECK.same("the root", x.on.next(root), END);
        CHECK.same("b of then", x.on.next(pair), END);
        CHECK.same("a of then, b empty in front", x.on.next(one), 4 + 8);
        CHECK.same("a of then", x.on.next(maybe), 8);
        CHECK.same("a of maybe", x.on.next(maybe - 1), 8);
        CHECK.same("b of b", x.on.next(three), END);

        int before = x.token(5);
        int open = x.many(x.token(6));
        x.compileAs(0, x.then(before, open));
        CHECK.same("a of then, b EMPTY-ABLE", x.on.next(before), 64 + END);
        CHECK.same("a of many", x.on.next(open - 1), 64 + END);

        int a = x.token(7);
        int b = x.token(8);
        int or = x.or(a, b);
        int name = x.named(2, or);
        x.compileAs(0, x.then(name, one));
        CHECK.same("a of or", x.on.next(a), 2);
        CHECK.same("b of or", x.on.next(b), 2);
        CHECK.same("b of named", x.on.next(or), 2);
    }

    private static void nextOfSharedNodes() {
        Bench x = new Bench();
        int shared = x.maybe(x.token(1));
        int four = x.token(4);
        int two = x.token(2);
        int front = x.then(four, shared);
        int back = x.then(shared, two);
        int root = x.then(x.then(back, front), x.token(3));
        x.compileAs(0, root);
        CHECK.same("a shared node has both", x.on.next(shared), 4 + 8);
        CHECK.same("a of then has NEXT of the then, not of b", x.on.next(four), 2 + 8);
        int stray = x.then(four, x.token(9));
        CHECK.same("an unused then gives nothing", x.on.compile(0), 9);
        CHECK.same("so it stays", x.on.next(four), 2 + 8);
        CHECK.same("it is not used", x.on.next(stray), REFUSED);
    }

    private static void nextOfRules() {
        Bench x = new Bench();
        int body = x.token(1);
        int here = x.then(x.call(1), x.token(2));
        int there = x.then(x.token(3), x.call(1));
        int stray = x.then(x.call(1), x.token(9));
        x.on.rule(1, body);
        x.compileAs(0, x.or(here, there));
        CHECK.same("NEXT of every used call", x.on.next(body), 4 + END);
        x.compileAs(2, x.or(stray, here));
        CHECK.same("and of no other", x.on.next(body), 4 + 512);
        int self = x.call(3);
        int inner = x.then(x.then(x.token(4), self), x.token(5));
        int root = x.or(inner, x.token(6));
        x.compileAs(3, root);
        CHECK.same("the root that is called has both", x.on.next(root), 32 + END);
    }

    private static void nextAndAhead() {
        Bench x = new Bench();
        int tried = x.token(1);
        int second = x.token(2);
        int both = x.then(tried, second);
        int done = x.token(3);
        int ahead = x.ahead(both, done);
        int root = x.then(ahead, x.token(4));
        x.compileAs(0, root);
        CHECK.same("ahead gives nothing to its a", x.on.next(both), 0);
        CHECK.same("a node inside a has what it has there", x.on.next(tried), 4);
        CHECK.same("the last inside a has nothing", x.on.next(second), 0);
        CHECK.same("b of ahead", x.on.next(done), 16);
        CHECK.same("no FIRST of a", x.on.first(ahead), 8);
        int call = x.call(1);
        x.on.rule(1, done);
        x.compileAs(2, x.ahead(x.then(call, second), tried));
        CHECK.same("a call inside a gives to its rule", x.on.next(done), 4);
    }

    private static void clashOfOr() {
        Bench x = new Bench();
        int one = x.token(1);
        int two = x.token(2);
        int apart = x.or(one, two);
        x.compileAs(0, apart);
        CHECK.same("no clash", x.on.clash(apart), 0);
        int same = x.or(apart, two);
        x.compileAs(0, same);
        CHECK.same("FIRST of both", x.on.clash(same), 4);
        CHECK.same("one clash", x.on.count(4), 1);
        int a = x.or(x.maybe(one), two);
        x.compileAs(0, x.then(a, two));
        CHECK.same("NEXT of an EMPTY-ABLE a", x.on.clash(a), 4);
        int b = x.or(two, x.maybe(one));
        x.compileAs(0, x.then(b, two));
        CHECK.same("NEXT of an EMPTY-ABLE b", x.on.clash(b), 4);
        int ones = x.or(x.maybe(one), one);
        x.compileAs(0, x.then(ones, two));
        CHECK.same("FIRST of an EMPTY-ABLE a", x.on.clash(ones), 2);
        int both = x.or(x.maybe(one), x.maybe(two));
        x.compileAs(0, both);
        CHECK.same("the END in both", x.on.clash(both), END);
        int tried = x.or(x.ahead(two, one), one);
        x.compileAs(0, tried);
        CHECK.same("an ahead clashes as others do", x.on.clash(tried), 2);
    }

    private static void clashOfMaybeAndMany() {
        Bench x = new Bench();
        int one = x.token(1);
        int two = x.token(2);
        int maybe = x.maybe(one);
        int many = x.many(one);
        x.compileAs(0, x.then(maybe, two));
        CHECK.same("maybe, no clash", x.on.clash(maybe), 0);
        x.compileAs(0, x.then(maybe, one));
        CHECK.same("maybe", x.on.clash(maybe), 2);
        x.compileAs(0, x.then(many, two));
        CHECK.same("many, no clash", x.on.clash(many), 0);
        CHECK.same("none counted", x.on.count(4), 0);
        x.compileAs(0, x.then(many, one));
        CHECK.same("many", x.on.clash(many), 2);
        x.compileAs(0, x.then(maybe, x.then(many, one)));
        CHECK.same("both counted", x.on.count(4), 2);
        CHECK.same("clash is of NEXT of the node", x.on.clash(many), 2);
        x.on.compile(7);
        CHECK.same("none counted if nothing is compiled", x.on.count(4), 0);
    }

    private static void noClashOfOthers() {
        Bench x = new Bench();
        int one = x.token(1);
        int call = x.call(1);
        x.on.rule(1, x.maybe(one));
        int ahead = x.ahead(one, x.maybe(one));
        int name = x.named(3, ahead);
        int nothing = x.nothing();
        int pair = x.then(call, name);
        int root = x.then(pair, x.then(nothing, one));
        x.compileAs(0, root);
        for (int node : new int[] {one, call, ahead, name, nothing, pair, root}) {
            CHECK.same("no clash of node " + node, x.on.clash(node), 0);
        }
        CHECK.same("the maybes have one", x.on.count(4), 2);
    }

    private static void compiledAnew() {
        Bench x = new Bench();
        int one = x.token(1);
        int call = x.call(1);
        int root = x.then(call, one);
        x.on.rule(1, x.maybe(x.token(2)));
        x.compileAs(0, root);
        all("a rule that can be empty", x.on, call, 1, 4, 2);
        all("in front", x.on, root, 0, 2 + 4, END);
        x.on.rule(1, x.token(3));
        x.on.compile(0);
        all("another that can't", x.on, call, 0, 8, 2);
        all("nothing of before is left", x.on, root, 0, 8, END);
        x.on.rule(3, x.then(call, x.token(4)));
        x.on.compile(3);
        all("in another place", x.on, call, 0, 8, 16);
    }

    private static void callAsTheFirstNode() {
        Bench x = new Bench();
        int call = x.call(1);
        int body = x.token(2);
        x.on.rule(1, body);
        CHECK.same("node 0 uses what it calls", x.compileAs(0, call), 2);
        all("node 0", x.on, call, 0, 4, END);
        all("what it calls", x.on, body, 0, 4, END);
    }
}
