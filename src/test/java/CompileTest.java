/** Promise 4: compile. */
public final class CompileTest {
    private static final int REFUSED = ParserGenerator.REFUSED;
    private static final int UNDEFINED = ParserGenerator.UNDEFINED;
    private static final int RECURSIVE = ParserGenerator.RECURSIVE;
    private static final int ENDLESS = ParserGenerator.ENDLESS;

    private static final Check CHECK = new Check();

    public static void main(String[] args) {
        used();
        wrongRules();
        undefinedUndoes();
        undefinedCalls();
        recursion();
        recursionBehindEmpty();
        recursionOfOtherRules();
        aheadAndRecursion();
        endless();
        order();
        CHECK.end("CompileTest");
    }

    private static void used() {
        Bench x = new Bench();
        int one = x.token(1);
        int two = x.token(2);
        int tried = x.token(3);
        int ahead = x.ahead(tried, x.call(1));
        int root = x.or(ahead, one);
        int stray = x.then(one, two);
        x.on.rule(1, two);
        x.on.rule(2, stray);
        CHECK.same("used nodes, a of ahead among them", x.compileAs(0, root), 6);
        CHECK.same("a of ahead is used", x.on.first(tried), 8);
        CHECK.same("the node of a called rule is used", x.on.first(two), 4);
        CHECK.same("a stray node is not", x.on.first(stray), REFUSED);
        CHECK.same("count(5)", x.on.count(5), 6);
        int later = x.token(4);
        CHECK.same("a node made later is not used", x.on.empty(later), REFUSED);
        CHECK.same("and is not counted", x.on.count(5), 6);
        CHECK.same("compiled anew for another rule", x.on.compile(2), 3);
        CHECK.same("a node used before", x.on.first(ahead), REFUSED);
        int name = x.named(3, later);
        CHECK.same("a label is no node that is used", x.compileAs(3, name), 2);
    }

    private static void wrongRules() {
        Bench x = new Bench();
        x.compileAs(0, x.token(1));
        for (int r : new int[] {Integer.MIN_VALUE, -1, 8, 9, Integer.MAX_VALUE}) {
            CHECK.same("compile(" + r + ")", x.on.compile(r), REFUSED);
        }
        CHECK.same("refused: what was compiled stays", x.on.first(0), 2);
        CHECK.same("refused: it parses", x.parse(1), 0);
    }

    private static void undefinedUndoes() {
        Bench x = new Bench();
        x.compileAs(0, x.token(1));
        CHECK.same("a rule not defined", x.on.compile(1), UNDEFINED);
        CHECK.same("nothing is compiled: parse", x.on.parse(), REFUSED);
        CHECK.same("nothing is compiled: empty", x.on.empty(0), REFUSED);
        CHECK.same("nothing is compiled: first", x.on.first(0), REFUSED);
        CHECK.same("nothing is compiled: next", x.on.next(0), REFUSED);
        CHECK.same("nothing is compiled: clash", x.on.clash(0), REFUSED);
        CHECK.same("nothing is compiled: count(5)", x.on.count(5), 0);
        CHECK.same("compiled again", x.on.compile(0), 1);
        int many = x.many(x.nothing());
        x.on.rule(1, many);
        CHECK.same("endless", x.on.compile(1), ENDLESS);
        CHECK.same("nothing is compiled behind endless", x.on.parse(), REFUSED);
        x.on.compile(0);
        CHECK.same("recursive", x.compileAs(2, x.call(2)), RECURSIVE);
        CHECK.same("nothing is compiled behind recursive", x.on.parse(), REFUSED);
        CHECK.same("nor counted", x.on.count(5), 0);
    }

    private static void undefinedCalls() {
        Bench x = new Bench();
        int one = x.token(1);
        CHECK.same("a call of what is not there", x.compileAs(0, x.then(one, x.call(5))), UNDEFINED);
        CHECK.same("in a of ahead", x.compileAs(1, x.ahead(x.call(5), one)), UNDEFINED);
        CHECK.same("in a called rule", x.compileAs(2, x.then(one, x.call(1))), UNDEFINED);
        CHECK.same("a stray call does no harm", x.compileAs(3, one), 1);
        x.on.rule(5, one);
        CHECK.same("once it is there", x.on.compile(2), 5);
    }

    private static void recursion() {
        Bench x = new Bench();
        int one = x.token(1);
        int self = x.call(0);
        CHECK.same("call", x.compileAs(0, self), RECURSIVE);
        CHECK.same("then, a", x.compileAs(0, x.then(self, one)), RECURSIVE);
        CHECK.same("then, b behind a token", x.compileAs(0, x.then(one, self)), 3);
        CHECK.same("or, a", x.compileAs(0, x.or(self, one)), RECURSIVE);
        CHECK.same("or, b", x.compileAs(0, x.or(one, self)), RECURSIVE);
        CHECK.same("maybe", x.compileAs(0, x.maybe(self)), RECURSIVE);
        CHECK.same("many", x.compileAs(0, x.many(self)), RECURSIVE);
        CHECK.same("ahead, b", x.compileAs(0, x.ahead(one, self)), RECURSIVE);
        CHECK.same("named", x.compileAs(0, x.named(0, self)), RECURSIVE);
        CHECK.same("by way of another rule", x.compileAs(1, x.call(2)), UNDEFINED);
        x.on.rule(2, x.maybe(x.call(1)));
        CHECK.same("there and back", x.on.compile(1), RECURSIVE);
        CHECK.same("back and there", x.on.compile(2), RECURSIVE);
    }

    private static void recursionBehindEmpty() {
        Bench x = new Bench();
        int one = x.token(1);
        int self = x.call(0);
        CHECK.same("behind maybe", x.compileAs(0, x.then(x.maybe(one), self)), RECURSIVE);
        CHECK.same("behind many", x.compileAs(0, x.then(x.many(one), self)), RECURSIVE);
        CHECK.same("behind nothing", x.compileAs(0, x.then(x.nothing(), self)), RECURSIVE);
        int call = x.call(1);
        x.on.rule(1, x.or(one, x.nothing()));
        CHECK.same("behind a rule that can be empty", x.compileAs(0, x.then(call, self)), RECURSIVE);
        x.on.rule(1, one);
        CHECK.same("behind one that can't", x.on.compile(0), 4);
    }

    private static void recursionOfOtherRules() {
        Bench x = new Bench();
        int one = x.token(1);
        x.on.rule(1, x.maybe(x.call(1)));
        CHECK.same("a called rule comes to itself", x.compileAs(0, x.then(one, x.call(1))), RECURSIVE);
        CHECK.same("a rule that is not called may", x.compileAs(0, one), 1);
        int shared = x.call(3);
        x.on.rule(3, shared);
        CHECK.same("two rules of one node", x.compileAs(2, shared), RECURSIVE);
        int tail = x.then(one, x.call(5));
        x.on.rule(5, tail);
        CHECK.same("two rules of one node that is sound", x.compileAs(4, tail), 3);
    }

    private static void aheadAndRecursion() {
        Bench x = new Bench();
        int one = x.token(1);
        CHECK.same("a of ahead comes to nothing", x.compileAs(0, x.ahead(x.call(0), one)), 3);
        CHECK.same("it scans to no end but DEEP or a choice", x.parse(1), 0);
        x.on.rule(1, x.call(1));
        CHECK.same("a rule called in a of ahead", x.compileAs(2, x.ahead(x.call(1), one)), RECURSIVE);
    }

    private static void endless() {
        Bench x = new Bench();
        int one = x.token(1);
        int nothing = x.nothing();
        CHECK.same("many of nothing", x.compileAs(0, x.many(nothing)), ENDLESS);
        CHECK.same("many of maybe", x.compileAs(0, x.many(x.maybe(one))), ENDLESS);
        CHECK.same("many of many", x.compileAs(0, x.many(x.many(one))), ENDLESS);
        CHECK.same("many of or", x.compileAs(0, x.many(x.or(one, nothing))), ENDLESS);
        CHECK.same("many of then of empties", x.compileAs(0, x.many(x.then(nothing, nothing))), ENDLESS);
        CHECK.same("many of then with a token", x.compileAs(0, x.many(x.then(nothing, one))), 4);
        int bad = x.many(x.named(1, nothing));
        CHECK.same("many of named", x.compileAs(0, bad), ENDLESS);
        CHECK.same("in a of ahead", x.compileAs(0, x.ahead(bad, one)), ENDLESS);
        CHECK.same("many of ahead, empty b", x.compileAs(0, x.many(x.ahead(one, nothing))), ENDLESS);
        CHECK.same("many of ahead, empty a", x.compileAs(0, x.many(x.ahead(nothing, one))), 4);
        x.on.rule(1, nothing);
        CHECK.same("many of a call", x.compileAs(0, x.many(x.call(1))), ENDLESS);
        CHECK.same("one that is not used", x.compileAs(0, one), 1);
    }

    private static void order() {
        Bench x = new Bench();
        int self = x.call(0);
        int lost = x.call(7);
        int endless = x.many(x.nothing());
        int pair = x.then(self, endless);
        CHECK.same("recursive before endless", x.compileAs(0, pair), RECURSIVE);
        CHECK.same("undefined before both", x.compileAs(0, x.then(pair, lost)), UNDEFINED);
        CHECK.same("undefined before endless", x.compileAs(0, x.then(endless, lost)), UNDEFINED);
    }
}
