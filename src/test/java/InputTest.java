/** Promises 9 and 10, and count 1 of 15: feed, wipe. */
public final class InputTest {
    private static final Check CHECK = new Check();

    public static void main(String[] args) {
        feeding();
        wiping();
        orderOfTokens();
        CHECK.end("InputTest");
    }

    private static void feeding() {
        ParserGenerator g = new ParserGenerator();
        for (int token : new int[] {Integer.MIN_VALUE, -1, 10, 11, Integer.MAX_VALUE}) {
            CHECK.same("feed(" + token + ")", g.feed(token), ParserGenerator.REFUSED);
        }
        CHECK.same("refused: nothing is fed", g.count(1), 0);
        for (int i = 1; i <= 40; i++) {
            CHECK.same("token " + i, g.feed(i % 10), i);
            CHECK.same("tokens", g.count(1), i);
        }
        CHECK.same("a 41st", g.feed(0), ParserGenerator.FULL);
        CHECK.same("a 41st that is no token", g.feed(10), ParserGenerator.REFUSED);
        CHECK.same("a 41st below 0", g.feed(-1), ParserGenerator.REFUSED);
        CHECK.same("still 40", g.count(1), 40);
    }

    private static void wiping() {
        ParserGenerator g = new ParserGenerator();
        CHECK.same("wipe of none", g.wipe(), 0);
        g.feed(1);
        g.feed(2);
        CHECK.same("wipe of two", g.wipe(), 2);
        CHECK.same("none are left", g.count(1), 0);
        CHECK.same("wipe again", g.wipe(), 0);
        for (int i = 0; i < 40; i++) {
            g.feed(1);
        }
        CHECK.same("wipe of forty", g.wipe(), 40);
        CHECK.same("feed from the start", g.feed(3), 1);
    }

    private static void orderOfTokens() {
        Bench x = new Bench();
        x.compileAs(0, x.then(x.token(0), x.then(x.token(9), x.token(5))));
        CHECK.same("in the order fed", x.parse(0, 9, 5), 0);
        CHECK.same("the input stays", x.on.count(1), 3);
        CHECK.same("and parses again", x.on.parse(), 0);
        x.on.feed(5);
        CHECK.same("more than there was", x.on.parse(), ParserGenerator.MISMATCH);
        x.on.wipe();
        CHECK.same("nothing of what was wiped", x.on.parse(), ParserGenerator.MISMATCH);
        CHECK.same("at the start", x.on.place(), 0);
    }
}
