/** Promises 11, 12 and 16: TIRED and LARGE, where they come and what is left behind them. */
public final class LimitTest {
    private static final int TIRED = ParserGenerator.TIRED;
    private static final int LARGE = ParserGenerator.LARGE;
    private static final int NONE = ParserGenerator.NONE;

    private static final Check CHECK = new Check();

    public static void main(String[] args) {
        justNotTired();
        tiredInParsing();
        tiredInScanning();
        tiredInScanningOfMaybe();
        tiredBeforeAll();
        largeByTree();
        largeByLeaf();
        largeAndMismatch();
        CHECK.end("LimitTest");
    }

    private static void ends(String what, ParserGenerator g, int answer, int error, int place) {
        CHECK.same(what, answer, error);
        CHECK.same(what + ": place", g.place(), place);
        CHECK.same(what + ": due", g.due(), NONE);
        if (error != 0) {
            CHECK.same(what + ": no trees", g.count(2), 0);
            CHECK.same(what + ": no tree", g.tree(0, 0), NONE);
        }
    }

    /** Forty tokens cost 1463 steps; then comes the tail. */
    private static Bench longRun(int tailSteps) {
        Bench x = new Bench();
        int zero = x.token(0);
        x.on.rule(1, x.then(x.idle(3), x.slower(zero, 3)));
        x.on.rule(2, x.idle(5));
        int tried = x.then(zero, x.many(zero));
        int loop = x.many(x.ahead(tried, x.call(1)));
        int call = x.call(2);
        int tail = x.then(call, x.slower(x.nothing(), tailSteps - 34));
        x.compileAs(0, x.then(loop, tail));
        return x;
    }

    private static void justNotTired() {
        Bench x = longRun(36);
        ends("1500 steps", x.on, x.parseRow(0, 40), 0, 40);
        CHECK.same("1500 steps are counted", x.on.count(3), 1500);
        CHECK.same("with their leaves", x.on.count(2), 40);
    }

    private static void tiredInParsing() {
        Bench x = longRun(37);
        ends("1501 steps", x.on, x.parseRow(0, 40), TIRED, 40);
        CHECK.same("the 1501st is not counted", x.on.count(3), 1500);
        ends("fewer tokens are parsed again", x.on, x.parseRow(0, 39), 0, 39);
        CHECK.same("and have trees", x.on.tree(38, 0), 16);
    }

    /** A rule 1 that takes a token 0 in 66 steps. */
    private static int slowToken(Bench x) {
        x.on.rule(2, x.idle(6));
        x.on.rule(1, x.then(x.call(2), x.token(0)));
        return x.call(1);
    }

    private static void tiredInScanning() {
        Bench x = new Bench();
        int tried = x.many(slowToken(x));
        int rest = x.many(x.token(0));
        x.compileAs(0, x.or(x.ahead(tried, rest), rest));
        // or, many, and 22 times 67 steps are 1476: the 23rd token is not come to
        ends("tired in scanning", x.on, x.parseRow(0, 40), TIRED, 22);
        CHECK.same("steps", x.on.count(3), 1500);
        ends("not tired", x.on, x.parseRow(0, 22), 0, 22);
        CHECK.same("steps of scanning and parsing", x.on.count(3), 2 + 22 * 67 + 1 + 1 + 22);
    }

    private static void tiredInScanningOfMaybe() {
        Bench x = new Bench();
        int tried = x.many(slowToken(x));
        int zero = x.token(0);
        x.compileAs(0, x.maybe(x.ahead(tried, zero)));
        ends("maybe is not passed by", x.on, x.parseRow(0, 40), TIRED, 22);
        x.compileAs(0, x.then(zero, x.many(x.ahead(tried, zero))));
        ends("many does not end", x.on, x.parseRow(0, 40), TIRED, 23);
    }

    private static void tiredBeforeAll() {
        Bench x = new Bench();
        x.on.rule(1, x.idle(6));
        int call = x.call(1);
        int node = x.then(call, call);
        for (int i = 0; i < 4; i++) {
            node = x.then(node, node);
        }
        x.compileAs(0, node);
        ends("tired without a token", x.on, x.parse(), TIRED, 0);
        CHECK.same("steps", x.on.count(3), 1500);
    }

    private static void largeByTree() {
        Bench x = new Bench();
        x.compileAs(0, x.many(x.named(1, x.named(2, x.token(0)))));
        ends("90 trees and leaves", x.on, x.parseRow(0, 30), 0, 30);
        CHECK.same("90 are counted", x.on.count(2), 90);
        CHECK.same("the last leaf", x.on.tree(89, 0), 16);
        CHECK.same("there is no 91st", x.on.tree(90, 0), NONE);
        ends("91", x.on, x.parseRow(0, 31), LARGE, 30);
        CHECK.same("many and 30 times 3 steps, and the named", x.on.count(3), 1 + 90 + 1);
        ends("90 again", x.on, x.parseRow(0, 30), 0, 30);
    }

    private static void largeByLeaf() {
        Bench x = new Bench();
        int pad = x.named(3, x.nothing());
        x.compileAs(0, x.then(pad, x.many(x.named(1, x.named(2, x.token(0))))));
        ends("88 trees and leaves", x.on, x.parseRow(0, 29), 0, 29);
        CHECK.same("88 are counted", x.on.count(2), 88);
        ends("a leaf is the 91st", x.on, x.parseRow(0, 30), LARGE, 29);
        CHECK.same("then, named, nothing, many, and 30 times 3 steps", x.on.count(3), 4 + 90);
    }

    private static void largeAndMismatch() {
        Bench x = new Bench();
        int pad = x.named(3, x.nothing());
        x.compileAs(0, x.then(x.then(pad, x.many(x.named(1, x.named(2, x.token(0))))), x.token(1)));
        ends("large comes before a later mismatch", x.on, x.parseRow(0, 31), LARGE, 29);
        Bench y = new Bench();
        pad = y.named(3, y.nothing());
        y.on.rule(1, y.named(1, y.named(2, y.or(y.token(0), y.token(1)))));
        int item = y.call(1);
        y.compileAs(0, y.then(pad, y.then(y.many(y.ahead(y.token(0), item)), item)));
        y.parseRow(0, 29);
        y.on.feed(2);
        CHECK.same("a token that is wrong makes no leaf", y.on.parse(), ParserGenerator.MISMATCH);
        CHECK.same("a token was due", y.on.due(), 1);
        CHECK.same("at place", y.on.place(), 29);
    }
}
