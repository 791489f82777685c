/** Promises 11 to 13 and 16, and count 3 of 15: parse, place, due, steps. */
public final class ParseTest {
    private static final int MISMATCH = ParserGenerator.MISMATCH;
    private static final int DEEP = ParserGenerator.DEEP;
    private static final int NONE = ParserGenerator.NONE;
    private static final int END = 10;

    private static final Check CHECK = new Check();

    public static void main(String[] args) {
        notCompiled();
        tokens();
        behindTheRoot();
        choiceOfOr();
        choiceByNext();
        choiceOfMaybeAndMany();
        steps();
        deep();
        placeStays();
        CHECK.end("ParseTest");
    }

    private static void ends(String what, ParserGenerator g, int answer, int error, int place, int due) {
        CHECK.same(what, answer, error);
        CHECK.same(what + ": place", g.place(), place);
        CHECK.same(what + ": due", g.due(), due);
    }

    private static void notCompiled() {
        Bench x = new Bench();
        ends("nothing compiled", x.on, x.parse(1), ParserGenerator.REFUSED, NONE, NONE);
        CHECK.same("the input stays", x.on.count(1), 1);
        x.compileAs(0, x.token(1));
        ends("compiled, not yet parsed", x.on, 0, 0, NONE, NONE);
        ends("a mismatch", x.on, x.parse(1, 2), MISMATCH, 1, END);
        int steps = x.on.count(3);
        x.on.compile(7);
        ends("refused: the last parse stays", x.on, x.parse(1), ParserGenerator.REFUSED, 1, END);
        CHECK.same("refused: its steps too", x.on.count(3), steps);
    }

    private static void tokens() {
        Bench x = new Bench();
        x.compileAs(0, x.then(x.token(1), x.token(2)));
        ends("as due", x.on, x.parse(1, 2), 0, 2, NONE);
        ends("first wrong", x.on, x.parse(2, 2), MISMATCH, 0, 1);
        ends("second wrong", x.on, x.parse(1, 1), MISMATCH, 1, 2);
        ends("too few", x.on, x.parse(1), MISMATCH, 1, 2);
        ends("none", x.on, x.parse(), MISMATCH, 0, 1);
        ends("right again", x.on, x.parse(1, 2), 0, 2, NONE);
    }

    private static void behindTheRoot() {
        Bench x = new Bench();
        int nothing = x.nothing();
        x.compileAs(0, nothing);
        ends("nothing of nothing", x.on, x.parse(), 0, 0, NONE);
        CHECK.same("in one step", x.on.count(3), 1);
        ends("something instead", x.on, x.parse(0), MISMATCH, 0, END);
        x.compileAs(0, x.token(0));
        ends("too much", x.on, x.parse(0, 0), MISMATCH, 1, END);
    }

    private static void choiceOfOr() {
        Bench x = new Bench();
        int one = x.token(1);
        int two = x.token(2);
        x.compileAs(0, x.or(x.then(one, one), x.then(one, two)));
        ends("a comes first", x.on, x.parse(1, 2), MISMATCH, 1, 1);
        ends("a", x.on, x.parse(1, 1), 0, 2, NONE);
        ends("else b", x.on, x.parse(2), MISMATCH, 0, 1);
        x.compileAs(0, x.or(one, two));
        ends("b is due if neither fits", x.on, x.parse(3), MISMATCH, 0, 2);
    }

    private static void choiceByNext() {
        Bench x = new Bench();
        int one = x.token(1);
        int two = x.token(2);
        int or = x.or(x.maybe(one), two);
        x.compileAs(0, x.then(or, two));
        ends("an empty a by its NEXT", x.on, x.parse(2), 0, 1, NONE);
        ends("an empty a by its FIRST", x.on, x.parse(1, 2), 0, 2, NONE);
        ends("so b is never come to", x.on, x.parse(2, 2), MISMATCH, 1, END);
        x.compileAs(0, x.or(x.maybe(one), two));
        ends("an empty a by the END", x.on, x.parse(), 0, 0, NONE);
        ends("b by its token", x.on, x.parse(2), 0, 1, NONE);
        x.compileAs(0, x.or(x.nothing(), two));
        ends("nothing by the END", x.on, x.parse(), 0, 0, NONE);
        ends("not nothing", x.on, x.parse(3), MISMATCH, 0, 2);
    }

    private static void choiceOfMaybeAndMany() {
        Bench x = new Bench();
        int one = x.token(1);
        int pair = x.then(one, x.token(2));
        x.compileAs(0, x.maybe(pair));
        ends("maybe not", x.on, x.parse(), 0, 0, NONE);
        ends("maybe", x.on, x.parse(1, 2), 0, 2, NONE);
        ends("maybe, once", x.on, x.parse(1, 2, 1, 2), MISMATCH, 2, END);
        ends("maybe, chosen and wrong", x.on, x.parse(1, 1), MISMATCH, 1, 2);
        x.compileAs(0, x.many(pair));
        ends("not at all", x.on, x.parse(), 0, 0, NONE);
        ends("many times", x.on, x.parse(1, 2, 1, 2, 1, 2), 0, 6, NONE);
        ends("many, then wrong", x.on, x.parse(1, 2, 1), MISMATCH, 3, 2);
        ends("many, then another", x.on, x.parse(1, 2, 2), MISMATCH, 2, END);
        x.compileAs(0, x.then(x.maybe(x.maybe(one)), one));
        ends("by FIRST and not by NEXT", x.on, x.parse(1), MISMATCH, 1, 1);
        x.compileAs(0, x.then(x.many(one), one));
        ends("many takes all", x.on, x.parse(1, 1), MISMATCH, 2, 1);
        int emptied = x.then(x.maybe(x.maybe(one)), x.token(3));
        x.compileAs(0, emptied);
        x.parse(3);
        CHECK.same("an empty operand is not chosen by NEXT", x.on.count(3), 3);
    }

    private static void steps() {
        Bench x = new Bench();
        int one = x.token(1);
        x.on.rule(1, one);
        int call = x.call(1);
        int many = x.many(x.named(1, call));
        int root = x.then(x.or(x.maybe(one), x.nothing()), many);
        CHECK.same("used", x.compileAs(0, root), 8);
        CHECK.same("parse", x.parse(1, 1, 1), 0);
        // then, or, maybe, token; many; twice named, call, token
        CHECK.same("each node each time", x.on.count(3), 4 + 1 + 6);
        CHECK.same("a mismatch", x.parse(2), MISMATCH);
        CHECK.same("steps up to it", x.on.count(3), 4);
        x.on.wipe();
        CHECK.same("steps stay till the next parse", x.on.count(3), 4);
        x.compileAs(0, x.ahead(root, one));
        x.parse(1);
        CHECK.same("ahead outside of a choice tries nothing", x.on.count(3), 2);
    }

    private static void deep() {
        Bench x = new Bench();
        int tail = x.then(x.token(1), x.call(0));
        x.compileAs(0, x.or(tail, x.nothing()));
        ends("six calls", x.on, x.parseRow(1, 6), 0, 6, NONE);
        ends("seven calls", x.on, x.parseRow(1, 7), DEEP, 7, NONE);
        CHECK.same("the call has counted", x.on.count(3), 7 * 4);
        ends("more", x.on, x.parseRow(1, 40), DEEP, 7, NONE);
        int call = x.call(1);
        int flat = x.then(call, call);
        x.on.rule(1, x.token(1));
        for (int i = 0; i < 3; i++) {
            flat = x.then(flat, flat);
        }
        x.compileAs(2, flat);
        ends("calls that are over do not count", x.on, x.parseRow(1, 16), 0, 16, NONE);
    }

    private static void placeStays() {
        Bench x = new Bench();
        x.compileAs(0, x.many(x.token(1)));
        x.parse(1, 1);
        x.on.feed(1);
        CHECK.same("the length that was parsed", x.on.place(), 2);
        x.on.wipe();
        CHECK.same("it stays behind wipe", x.on.place(), 2);
        x.parse(1, 2);
        x.compileAs(0, x.token(5));
        CHECK.same("place stays behind compile", x.on.place(), 1);
        CHECK.same("due stays behind compile", x.on.due(), END);
    }
}
