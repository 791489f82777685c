/** Promises 11 to 13: SCANNING, by which an AHEAD is chosen. */
public final class AheadTest {
    private static final int MISMATCH = ParserGenerator.MISMATCH;
    private static final int NONE = ParserGenerator.NONE;

    private static final Check CHECK = new Check();

    public static void main(String[] args) {
        choice();
        choiceIsByAheadAlone();
        noEndNeeded();
        maybeAndMany();
        noTrees();
        stepsCount();
        mismatchInScanning();
        deepInScanning();
        deepCountsFromParsing();
        aheadInScanning();
        aheadOfAheadInScanning();
        sharedPartInScanning();
        aheadInMaybeInScanning();
        CHECK.end("AheadTest");
    }

    /** Whether a scan of the tried node succeeds on the tokens: the input is then parsed as tree 1, else as tree 2. */
    private static boolean scans(Bench x, int tried, int... tokens) {
        // Taking any token, so that only the scan tells the two apart.
        int any = x.or(x.or(x.token(1), x.token(2)), x.or(x.token(3), x.token(4)));
        x.on.rule(6, x.many(any));
        int rest = x.call(6);
        x.compileAs(7, x.or(x.ahead(tried, x.named(1, rest)), x.named(2, rest)));
        CHECK.same("either way it parses", x.parse(tokens), 0);
        return x.on.tree(0, 0) == 1;
    }

    private static void choice() {
        Bench x = new Bench();
        int tried = x.then(x.token(1), x.token(2));
        CHECK.holds("a row that fits", scans(x, tried, 1, 2));
        Bench w = new Bench();
        CHECK.holds("its first token is wrong", !scans(w, w.then(w.token(1), w.token(2)), 2, 2));
        Bench y = new Bench();
        CHECK.holds("its second token is wrong", !scans(y, y.then(y.token(1), y.token(2)), 1, 1));
        Bench z = new Bench();
        CHECK.holds("its second token is missing", !scans(z, z.then(z.token(1), z.token(2)), 1));
    }

    private static void choiceIsByAheadAlone() {
        Bench x = new Bench();
        int one = x.token(1);
        int two = x.token(2);
        x.compileAs(0, x.or(x.ahead(two, one), two));
        CHECK.same("the token in FIRST of the ahead counts not", x.parse(1), MISMATCH);
        CHECK.same("b was due", x.on.due(), 2);
        CHECK.same("a can be scanned", x.parse(2), MISMATCH);
        CHECK.same("so the ahead's b was due", x.on.due(), 1);
        x.compileAs(0, x.or(x.named(0, x.ahead(two, one)), two));
        CHECK.same("an ahead inside an operand is no choice", x.parse(1), 0);
        x.compileAs(0, x.or(one, x.ahead(two, two)));
        CHECK.same("nor is one that is b", x.parse(2), 0);
    }

    private static void noEndNeeded() {
        Bench x = new Bench();
        CHECK.holds("a scan may stop before the end", scans(x, x.token(1), 1, 2, 3));
        Bench y = new Bench();
        CHECK.holds("nothing can always be scanned", scans(y, y.nothing(), 4));
    }

    private static void maybeAndMany() {
        Bench x = new Bench();
        int one = x.token(1);
        int two = x.token(2);
        int pair = x.then(one, two);
        int tried = x.ahead(pair, pair);
        x.compileAs(0, x.then(x.maybe(tried), one));
        CHECK.same("maybe by scanning", x.parse(1, 2, 1), 0);
        CHECK.same("maybe not, though FIRST has it", x.parse(1), 0);
        x.compileAs(0, x.then(x.many(tried), one));
        CHECK.same("many by scanning", x.parse(1, 2, 1, 2, 1), 0);
        CHECK.same("not at all", x.parse(1), 0);
        x.compileAs(0, x.many(x.ahead(x.nothing(), one)));
        CHECK.same("chosen at the end, too", x.parse(1, 1), MISMATCH);
        CHECK.same("place", x.on.place(), 2);
        CHECK.same("due", x.on.due(), 1);
    }

    private static void noTrees() {
        Bench x = new Bench();
        int one = x.token(1);
        int tried = x.named(3, x.then(one, x.named(4, one)));
        x.compileAs(0, x.or(x.ahead(tried, x.then(one, one)), one));
        CHECK.same("parse", x.parse(1, 1), 0);
        CHECK.same("only what parsing made", x.on.count(2), 2);
        CHECK.same("leaf 0", x.on.tree(0, 0), 17);
        CHECK.same("leaf 0 begins", x.on.tree(0, 2), 0);
        CHECK.same("leaf 1 begins", x.on.tree(1, 2), 1);
    }

    private static void stepsCount() {
        Bench x = new Bench();
        int one = x.token(1);
        x.on.rule(1, one);
        int tried = x.named(3, x.then(x.call(1), x.maybe(one)));
        x.compileAs(0, x.or(x.ahead(tried, x.then(one, one)), one));
        CHECK.same("scanned", x.parse(1, 1), 0);
        // or; scanned named, then, call, token, maybe, token; ahead, then, token, token
        CHECK.same("steps", x.on.count(3), 1 + 6 + 4);
        CHECK.same("not scanned", x.parse(), MISMATCH);
        // or; scanned named, then, call, token; token
        CHECK.same("steps of a scan that failed", x.on.count(3), 1 + 4 + 1);
    }

    private static void mismatchInScanning() {
        Bench x = new Bench();
        int one = x.token(1);
        int tried = x.then(one, x.token(2));
        x.compileAs(0, x.many(x.ahead(tried, tried)));
        CHECK.same("a scan that fails is no error", x.parse(1, 2), 0);
        CHECK.same("nothing was due", x.on.due(), NONE);
        CHECK.same("place", x.on.place(), 2);
        CHECK.same("a scan that fails behind its first token", x.parse(1, 1), MISMATCH);
        CHECK.same("the place is that of parsing", x.on.place(), 0);
        CHECK.same("the END was due", x.on.due(), 10);
    }

    private static void deepInScanning() {
        for (int length = 4; length <= 7; length++) {
            Bench x = new Bench();
            int[] row = new int[length];
            java.util.Arrays.fill(row, 1);
            x.on.rule(0, x.or(x.then(x.token(1), x.call(0)), x.nothing()));
            int tried = x.call(0);
            CHECK.same("calls scanned: " + (length + 1), scans(x, tried, row) ? 1 : 0, length <= 5 ? 1 : 0);
            CHECK.same("no place of the scan's error", x.on.place(), length);
        }
    }

    private static void deepCountsFromParsing() {
        for (int length = 3; length <= 6; length++) {
            Bench x = new Bench();
            int one = x.token(1);
            int rest = x.many(one);
            x.on.rule(0, x.or(x.then(one, x.call(0)), x.nothing()));
            x.on.rule(1, x.or(x.ahead(x.call(0), x.named(1, rest)), x.named(2, rest)));
            x.compileAs(2, x.call(1));
            CHECK.same("parse", x.parseRow(1, length), 0);
            CHECK.same("one call under way, row of " + length, x.on.tree(0, 0), length <= 4 ? 1 : 2);
        }
    }

    private static void aheadInScanning() {
        Bench x = new Bench();
        int tried = x.or(x.ahead(x.token(3), x.token(1)), x.token(2));
        CHECK.holds("chosen by the token of its b", scans(x, tried, 1));
        Bench y = new Bench();
        tried = y.or(y.ahead(y.token(3), y.token(1)), y.token(3));
        CHECK.holds("and not by its a", scans(y, tried, 3));
        x.compileAs(0, 3);
        CHECK.same("in parsing it is by its a", x.parse(1), MISMATCH);
    }

    private static void aheadOfAheadInScanning() {
        Bench x = new Bench();
        int one = x.token(1);
        int three = x.token(3);
        int tried = x.or(x.ahead(three, x.ahead(three, one)), three);
        CHECK.holds("like the b of its b", scans(x, tried, 1));
        int steps = x.on.count(3);
        // or; scanned or, ahead, ahead, token; ahead, named, call, many, or, or, token
        CHECK.same("no a of an ahead is scanned then", steps, 1 + 4 + 7);
    }

    private static void sharedPartInScanning() {
        Bench x = new Bench();
        int shared = x.maybe(x.token(1));
        int inFront = x.then(shared, x.token(3));
        int tried = x.or(x.ahead(x.token(4), shared), x.token(2));
        int choice = x.or(x.ahead(tried, x.named(1, x.token(3))), x.named(2, x.token(3)));
        x.on.rule(1, choice);
        x.compileAs(0, x.then(inFront, x.call(1)));
        CHECK.same("START of the ahead has no 3", x.on.next(tried), 0);
        CHECK.same("START of its b has", x.on.next(shared), 8);
        CHECK.same("parse", x.parse(3, 3), 0);
        CHECK.same("chosen like its b", x.on.tree(1, 0), 1);
    }

    private static void aheadInMaybeInScanning() {
        Bench x = new Bench();
        int part = x.ahead(x.token(4), x.token(1));
        CHECK.holds("maybe", scans(x, x.then(x.maybe(part), x.token(2)), 1, 2));
        Bench y = new Bench();
        int again = y.ahead(y.token(4), y.token(1));
        CHECK.holds("many", scans(y, y.then(y.many(again), y.token(2)), 1, 1, 1, 2));
        Bench z = new Bench();
        int other = z.ahead(z.token(2), z.token(1));
        CHECK.holds("not by its a", scans(z, z.then(z.maybe(other), z.token(2)), 2));
    }
}
