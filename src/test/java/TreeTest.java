/** Promises 14 to 16: tree, count. */
public final class TreeTest {
    private static final int REFUSED = ParserGenerator.REFUSED;
    private static final int NONE = ParserGenerator.NONE;

    private static final Check CHECK = new Check();

    public static void main(String[] args) {
        nested();
        emptyTrees();
        partsByCalls();
        labels();
        wrongNumbers();
        behindErrors();
        refusedParseKeepsTrees();
        counts();
        readme();
        CHECK.end("TreeTest");
    }

    private static void is(ParserGenerator g, int i, int label, int parts, int place) {
        CHECK.same("label of tree " + i, g.tree(i, 0), label);
        CHECK.same("parts of tree " + i, g.tree(i, 1), parts);
        CHECK.same("place of tree " + i, g.tree(i, 2), place);
    }

    private static void nested() {
        Bench x = new Bench();
        int zero = x.token(0);
        int nine = x.token(9);
        x.on.rule(1, x.named(5, x.then(nine, nine)));
        int inner = x.call(1);
        int outer = x.named(4, x.then(x.then(zero, inner), x.then(zero, inner)));
        x.compileAs(0, x.then(zero, x.then(outer, nine)));
        CHECK.same("parse", x.parse(0, 0, 9, 9, 0, 9, 9, 9), 0);
        CHECK.same("trees and leaves", x.on.count(2), 11);
        is(x.on, 0, 16, 0, 0);
        is(x.on, 1, 4, 4, 1);
        is(x.on, 2, 16, 0, 1);
        is(x.on, 3, 5, 2, 2);
        is(x.on, 4, 25, 0, 2);
        is(x.on, 5, 25, 0, 3);
        is(x.on, 6, 16, 0, 4);
        is(x.on, 7, 5, 2, 5);
        is(x.on, 8, 25, 0, 5);
        is(x.on, 9, 25, 0, 6);
        is(x.on, 10, 25, 0, 7);
        CHECK.same("no more", x.on.tree(11, 0), NONE);
    }

    private static void emptyTrees() {
        Bench x = new Bench();
        int nothing = x.nothing();
        int empty = x.named(0, nothing);
        int around = x.named(15, empty);
        x.compileAs(0, x.then(x.token(1), x.then(around, empty)));
        CHECK.same("parse", x.parse(1), 0);
        is(x.on, 0, 17, 0, 0);
        is(x.on, 1, 15, 1, 1);
        is(x.on, 2, 0, 0, 1);
        is(x.on, 3, 0, 0, 1);
        x.compileAs(1, nothing);
        CHECK.same("parse of nothing", x.parse(), 0);
        CHECK.same("no trees", x.on.count(2), 0);
        CHECK.same("no tree", x.on.tree(0, 0), NONE);
    }

    private static void partsByCalls() {
        Bench x = new Bench();
        int list = x.named(2, x.then(x.token(3), x.maybe(x.call(0))));
        x.compileAs(0, list);
        CHECK.same("parse", x.parse(3, 3, 3), 0);
        is(x.on, 0, 2, 2, 0);
        is(x.on, 1, 19, 0, 0);
        is(x.on, 2, 2, 2, 1);
        is(x.on, 4, 2, 1, 2);
        is(x.on, 5, 19, 0, 2);
        CHECK.same("parse anew", x.parse(3), 0);
        is(x.on, 0, 2, 1, 0);
        CHECK.same("none of the old ones", x.on.tree(2, 0), NONE);
    }

    private static void labels() {
        for (int token = 0; token < 10; token++) {
            Bench x = new Bench();
            x.compileAs(0, x.token(token));
            x.parse(token);
            is(x.on, 0, 16 + token, 0, 0);
        }
    }

    private static void wrongNumbers() {
        Bench x = new Bench();
        for (int what : new int[] {Integer.MIN_VALUE, -1, 3, Integer.MAX_VALUE}) {
            CHECK.same("no trees, what " + what, x.on.tree(0, what), REFUSED);
        }
        x.compileAs(0, x.token(1));
        x.parse(1);
        for (int what : new int[] {Integer.MIN_VALUE, -1, 3, Integer.MAX_VALUE}) {
            CHECK.same("what " + what, x.on.tree(0, what), REFUSED);
            CHECK.same("no such tree, what " + what, x.on.tree(5, what), REFUSED);
        }
        for (int i : new int[] {Integer.MIN_VALUE, -1, 1, 90, Integer.MAX_VALUE}) {
            CHECK.same("tree " + i, x.on.tree(i, 0), NONE);
        }
    }

    private static void behindErrors() {
        Bench x = new Bench();
        x.compileAs(0, x.named(7, x.then(x.token(1), x.token(2))));
        x.parse(1, 2);
        CHECK.same("a tree", x.on.tree(0, 0), 7);
        x.parse(1, 3);
        CHECK.same("no tree behind an error", x.on.tree(0, 0), NONE);
        CHECK.same("in no way", x.on.tree(0, 1), NONE);
        CHECK.same("none counted", x.on.count(2), 0);
        x.parse(1, 2, 3);
        CHECK.same("nor behind one at the end", x.on.tree(0, 0), NONE);
        CHECK.same("nor counted", x.on.count(2), 0);
        x.parse(1, 2);
        CHECK.same("a tree again", x.on.tree(0, 0), 7);
        CHECK.same("with its parts", x.on.tree(0, 1), 2);
        CHECK.same("all counted", x.on.count(2), 3);
    }

    private static void refusedParseKeepsTrees() {
        Bench x = new Bench();
        x.compileAs(0, x.named(7, x.token(1)));
        x.parse(1);
        x.on.wipe();
        CHECK.same("wipe leaves the tree", x.on.tree(0, 0), 7);
        x.on.compile(1);
        CHECK.same("so does compile", x.on.tree(0, 0), 7);
        CHECK.same("nothing is compiled", x.on.parse(), REFUSED);
        CHECK.same("so does a refused parse", x.on.tree(0, 0), 7);
        CHECK.same("and the counts stay", x.on.count(2), 2);
        CHECK.same("of steps, too", x.on.count(3), 2);
    }

    private static void counts() {
        Bench x = new Bench();
        int one = x.token(1);
        int root = x.then(x.maybe(one), one);
        x.token(2);
        x.compileAs(0, root);
        x.parse(1, 1);
        CHECK.same("nodes", x.on.count(0), 4);
        CHECK.same("tokens", x.on.count(1), 2);
        CHECK.same("leaves", x.on.count(2), 2);
        CHECK.same("steps", x.on.count(3), 4);
        CHECK.same("clashes", x.on.count(4), 1);
        CHECK.same("used", x.on.count(5), 3);
        for (int what : new int[] {Integer.MIN_VALUE, -1, 6, Integer.MAX_VALUE}) {
            CHECK.same("count(" + what + ")", x.on.count(what), REFUSED);
        }
        x.on.compile(1);
        CHECK.same("nothing compiled: clashes", x.on.count(4), 0);
        CHECK.same("nothing compiled: used", x.on.count(5), 0);
    }

    private static void readme() {
        Bench x = new Bench();
        int one = x.token(1);
        int more = x.then(x.token(2), one);
        int list = x.then(one, x.many(more));
        CHECK.same("README: compile", x.compileAs(0, x.named(7, list)), 6);
        CHECK.same("README: parse", x.parse(1, 2, 1), 0);
        CHECK.same("README: label", x.on.tree(0, 0), 7);
        CHECK.same("README: parts", x.on.tree(0, 1), 3);
    }
}
