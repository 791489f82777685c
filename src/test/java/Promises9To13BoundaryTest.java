/** The sentences of the promises 9 to 13 (feed, wipe, parse, place, due) that name a boundary case. */
public final class Promises9To13BoundaryTest {
    private static final int REFUSED = ParserGenerator.REFUSED;
    private static final int FULL = ParserGenerator.FULL;
    private static final int MISMATCH = ParserGenerator.MISMATCH;
    private static final int DEEP = ParserGenerator.DEEP;
    private static final int TIRED = ParserGenerator.TIRED;
    private static final int LARGE = ParserGenerator.LARGE;
    private static final int NONE = ParserGenerator.NONE;
    private static final int END = 10;

    private static final Sentences DOC = new Sentences();

    public static void main(String[] args) {
        promise9Token0To9();
        promise9FortyThereFull();
        promise10InputBecomesEmpty();
        promise11InputStays();
        promise11ZeroOrTheError();
        promise11NothingCompiled();
        promise12PlaceOfEachError();
        promise12TiredInScanning();
        promise12InputsLengthIfNoError();
        promise12LastParseThatWasNotRefused();
        promise12NoneBefore();
        promise13TokenThatWasDue();
        promise13TenForTheEnd();
        promise13NoneIfItHadNone();
        DOC.end("Promises9To13BoundaryTest");
    }

    private static void promise9Token0To9() {
        DOC.sentence("Promise 9: feed", "Puts a TOKEN 0 .. 9 at the end of the input: how many.");
        ParserGenerator g = new ParserGenerator();
        for (int t : Numbers.outside(10)) {
            DOC.same("feed(" + t + ")", g.feed(t), REFUSED);
        }
        DOC.same("nothing was put there", g.count(1), 0);
        for (int t = 0; t <= 9; t++) {
            DOC.same("feed(" + t + ")", g.feed(t), t + 1);
            DOC.same("how many", g.count(1), t + 1);
        }
        DOC.same("refused between two", g.feed(10), REFUSED);
        DOC.same("the next", g.feed(9), 11);
        Bench x = new Bench();
        x.compileAs(0, x.then(x.token(0), x.then(x.token(9), x.token(0))));
        DOC.same("each at the end", x.parse(0, 9, 0), 0);
    }

    private static void promise9FortyThereFull() {
        DOC.sentence("Promise 9: feed", "40 there: FULL.");
        Bench x = new Bench();
        x.compileAs(0, x.then(x.many(x.token(1)), x.token(2)));
        for (int i = 1; i <= 39; i++) {
            DOC.same("token " + i, x.on.feed(1), i);
        }
        DOC.same("token 40", x.on.feed(2), 40);
        for (int t = 0; t <= 9; t++) {
            DOC.same("a 41st, " + t, x.on.feed(t), FULL);
        }
        DOC.same("a 41st out of its range", x.on.feed(10), REFUSED);
        DOC.same("a 41st below its range", x.on.feed(-1), REFUSED);
        DOC.same("there are 40", x.on.count(1), 40);
        DOC.same("they are as they were", x.on.parse(), 0);
        DOC.same("room again behind wipe", x.on.wipe(), 40);
        DOC.same("for a first", x.on.feed(2), 1);
        DOC.same("which counts", x.on.parse(), 0);
    }

    private static void promise10InputBecomesEmpty() {
        DOC.sentence("Promise 10: wipe", "The input becomes empty. How many TOKENS there were.");
        Bench x = new Bench();
        DOC.same("of none", x.on.wipe(), 0);
        x.on.feed(1);
        DOC.same("of one", x.on.wipe(), 1);
        DOC.same("empty", x.on.count(1), 0);
        DOC.same("of none again", x.on.wipe(), 0);
        for (int i = 0; i < 41; i++) {
            x.on.feed(1);
        }
        DOC.same("of forty", x.on.wipe(), 40);
        DOC.same("empty again", x.on.count(1), 0);
        x.compileAs(0, x.then(x.token(1), x.token(1)));
        x.on.feed(1);
        DOC.same("nothing wiped comes back", x.on.parse(), MISMATCH);
        DOC.same("behind the first", x.on.place(), 1);
        x.on.wipe();
        DOC.same("nor in an empty input", x.on.parse(), MISMATCH);
        DOC.same("at the first", x.on.place(), 0);
        DOC.same("what is compiled stays", x.on.count(5), 3);
        DOC.same("the nodes stay", x.on.count(0), 3);
    }

    private static void promise11InputStays() {
        DOC.sentence("Promise 11: parse", "PARSES the input, which stays: 0, or the error.");
        Bench x = new Bench();
        x.compileAs(0, x.then(x.token(1), x.maybe(x.token(2))));
        DOC.same("parse", x.parse(1), 0);
        DOC.same("the token is there", x.on.count(1), 1);
        DOC.same("parse again", x.on.parse(), 0);
        DOC.same("more at its end", x.on.feed(2), 2);
        DOC.same("parse of more", x.on.parse(), 0);
        DOC.same("still more", x.on.feed(2), 3);
        DOC.same("too much", x.on.parse(), MISMATCH);
        DOC.same("too much stays, too", x.on.count(1), 3);
        DOC.same("and is so again", x.on.parse(), MISMATCH);
        DOC.same("an empty input", x.parse(), MISMATCH);
        DOC.same("stays empty", x.on.count(1), 0);
    }

    /** A grammar that takes the tokens 1 1 and then, at the place 2, meets the error, or none if it is 0. */
    private static Bench withError(int error) {
        Bench x = new Bench();
        int one = x.token(1);
        int last = partWithError(x, error);
        x.compileAs(0, x.then(one, x.then(one, last)));
        return x;
    }

    private static int partWithError(Bench x, int error) {
        if (error == MISMATCH) {
            return x.token(3);
        }
        if (error == DEEP) {
            for (int r = 1; r < 7; r++) {
                x.on.rule(r, x.call(r + 1));
            }
            x.on.rule(7, x.nothing());
            return x.call(1);
        }
        if (error == TIRED) {
            x.on.rule(4, x.idleLong(0));
            return x.call(4);
        }
        if (error == LARGE) {
            x.on.rule(1, x.idleNamed(6));
            int call = x.call(1);
            int two = x.then(call, call);
            x.on.rule(4, x.then(two, x.then(two, two)));
            return x.call(4);
        }
        return x.nothing();
    }

    private static void promise11ZeroOrTheError() {
        DOC.sentence("Promise 11: parse", "0, or the error.");
        for (int error : new int[] {0, MISMATCH, DEEP, TIRED, LARGE}) {
            Bench x = withError(error);
            DOC.same("error " + error, x.parse(1, 1), error);
            DOC.same("error " + error + " again", x.on.parse(), error);
        }
        Bench x = withError(0);
        DOC.same("the END must be here", x.parse(1, 1, 1), MISMATCH);
    }

    private static void promise11NothingCompiled() {
        DOC.sentence("Promise 11: parse", "Nothing compiled: REFUSED.");
        Bench x = new Bench();
        DOC.same("a new object", x.on.parse(), REFUSED);
        x.on.rule(0, x.token(1));
        DOC.same("a rule, not compiled", x.parse(1), REFUSED);
        DOC.same("the input stays", x.on.count(1), 1);
        x.on.compile(0);
        DOC.same("compiled", x.on.parse(), 0);
        DOC.same("a BAD compile", x.on.compile(1), ParserGenerator.UNDEFINED);
        DOC.same("compiled no more", x.on.parse(), REFUSED);
        DOC.same("a refused compile", x.on.compile(8), REFUSED);
        DOC.same("does not bring it back", x.on.parse(), REFUSED);
    }

    private static void promise12PlaceOfEachError() {
        DOC.sentence("Promise 12: place", "The place at which the last parse that was not REFUSED met its error");
        for (int error : new int[] {MISMATCH, DEEP, TIRED, LARGE}) {
            Bench x = withError(error);
            x.parse(1, 1);
            DOC.same("error " + error, x.on.place(), 2);
            x.parse(1, 1, 1, 1);
            DOC.same("error " + error + ", more tokens behind it", x.on.place(), 2);
            x.parse(2);
            DOC.same("a MISMATCH at the first token", x.on.place(), 0);
            x.parse();
            DOC.same("a MISMATCH in an empty input", x.on.place(), 0);
        }
        Bench x = new Bench();
        x.compileAs(0, x.then(x.many(x.token(1)), x.token(2)));
        x.parseRow(1, 40);
        DOC.same("the END behind forty", x.on.place(), 40);
        x.compileAs(0, x.many(x.token(1)));
        x.parse(1, 1, 2, 1);
        DOC.same("where the END must be", x.on.place(), 2);
        errorsInsideOthers();
    }

    /** An error deep inside is the error of the parse, whatever stands round it or behind it. */
    private static void errorsInsideOthers() {
        for (int kind : new int[] {1, 2, 3, 4, 5, 7, 8}) {
            for (int error : new int[] {MISMATCH, DEEP, TIRED, LARGE}) {
                Bench x = withError(error);
                int bad = x.on.count(0) - 1;
                x.on.rule(7, bad);
                int round = x.on.node(kind, kind == 1 ? 7 : kind == 8 ? 1 : bad, bad);
                int answer = x.compileAs(0, x.then(round, x.token(1)));
                DOC.same("it compiles", answer > 0 ? 1 : answer, 1);
                DOC.same("inside of kind " + kind + ", error " + error, x.parse(1, 1, 4), error);
                DOC.same("inside of kind " + kind + ", place of " + error, x.on.place(), 2);
                DOC.same("inside of kind " + kind + ", due with " + error, x.on.due(), error == MISMATCH ? 3 : NONE);
            }
        }
    }

    private static void promise12TiredInScanning() {
        DOC.sentence("Promise 12: place", "(for TIRED in SCANNING the place that it had come to)");
        for (int kind = 3; kind <= 5; kind++) {
            Bench x = new Bench();
            int one = x.token(1);
            x.on.rule(4, x.idleLong(0));
            int tried = x.then(one, x.then(one, x.call(4)));
            int choice = x.on.node(kind, x.ahead(tried, one), one);
            x.compileAs(0, x.then(one, choice));
            DOC.same("kind " + kind, x.parse(1, 1, 1, 1), TIRED);
            DOC.same("kind " + kind + ", the scan's place", x.on.place(), 3);
            DOC.same("kind " + kind + ", nothing was due", x.on.due(), NONE);
            x.parse(1, 1);
            DOC.same("kind " + kind + ", not that of a scan that fails", x.on.place(), kind == 3 ? 2 : 1);
        }
    }

    private static void promise12InputsLengthIfNoError() {
        DOC.sentence("Promise 12: place", "the input's length if there was none;");
        Bench x = new Bench();
        x.compileAs(0, x.many(x.token(1)));
        for (int length : new int[] {0, 1, 39, 40}) {
            DOC.same("parse of " + length, x.parseRow(1, length), 0);
            DOC.same("length " + length, x.on.place(), length);
        }
        x.on.wipe();
        DOC.same("the length that was parsed", x.on.place(), 40);
        x.on.feed(1);
        DOC.same("till another parse", x.on.place(), 40);
        x.on.parse();
        DOC.same("of another length", x.on.place(), 1);
    }

    private static void promise12LastParseThatWasNotRefused() {
        DOC.sentence("Promise 12: place", "the last parse that was not REFUSED");
        Bench x = new Bench();
        x.compileAs(0, x.many(x.token(1)));
        x.parse(1, 1, 2);
        DOC.same("met at", x.on.place(), 2);
        x.on.compile(7);
        DOC.same("a compile is no parse", x.on.place(), 2);
        DOC.same("a refused parse", x.parse(), REFUSED);
        DOC.same("changes nothing", x.on.place(), 2);
        DOC.same("nor what was due", x.on.due(), END);
        x.on.compile(0);
        DOC.same("a parse in between", x.on.parse(), 0);
        DOC.same("changes it", x.on.place(), 0);
        x.on.compile(7);
        x.parse(2);
        DOC.same("a refused one behind one without an error", x.on.place(), 0);
    }

    private static void promise12NoneBefore() {
        DOC.sentence("Promise 12: place", "NONE before.");
        Bench x = new Bench();
        DOC.same("a new object", x.on.place(), NONE);
        x.parse(1, 1);
        DOC.same("behind a refused parse", x.on.place(), NONE);
        x.compileAs(0, x.token(1));
        DOC.same("behind compile", x.on.place(), NONE);
        x.on.parse();
        DOC.same("behind a parse", x.on.place(), 1);
    }

    private static void promise13TokenThatWasDue() {
        DOC.sentence("Promise 13: due", "The token (10 for the END) that was due at the MISMATCH of the last parse;");
        for (int t = 0; t <= 9; t++) {
            Bench x = new Bench();
            x.compileAs(0, x.token(t));
            DOC.same("no token", x.parse(), MISMATCH);
            DOC.same("at the END: " + t, x.on.due(), t);
            DOC.same("another token", x.parse((t + 1) % 10), MISMATCH);
            DOC.same("at another token: " + t, x.on.due(), t);
        }
        Bench x = new Bench();
        int one = x.token(1);
        int two = x.token(2);
        x.compileAs(0, x.then(x.or(x.ahead(x.then(one, two), one), one), x.token(3)));
        DOC.same("a scan that fails", x.parse(1, 4), MISMATCH);
        DOC.same("is not what was due", x.on.due(), 3);
    }

    private static void promise13TenForTheEnd() {
        DOC.sentence("Promise 13: due", "(10 for the END)");
        Bench x = new Bench();
        x.compileAs(0, x.nothing());
        DOC.same("one token too many", x.parse(0), MISMATCH);
        DOC.same("10", x.on.due(), 10);
        DOC.same("forty too many", x.parseRow(9, 40), MISMATCH);
        DOC.same("10 again", x.on.due(), 10);
    }

    private static void promise13NoneIfItHadNone() {
        DOC.sentence("Promise 13: due", "NONE if it had none.");
        DOC.same("a new object", new ParserGenerator().due(), NONE);
        for (int error : new int[] {0, DEEP, TIRED, LARGE}) {
            Bench x = withError(error);
            DOC.same("a MISMATCH first", x.parse(1), MISMATCH);
            DOC.same("1 was due", x.on.due(), 1);
            DOC.same("then the error " + error, x.parse(1, 1), error);
            DOC.same("nothing was due with " + error, x.on.due(), NONE);
        }
        Bench x = new Bench();
        int one = x.token(1);
        x.compileAs(0, x.or(x.ahead(x.token(2), one), one));
        DOC.same("a MISMATCH in SCANNING alone", x.parse(1), 0);
        DOC.same("is none", x.on.due(), NONE);
    }
}
