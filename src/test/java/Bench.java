/** An object under test with short names for the kinds of nodes. */
final class Bench {
    final ParserGenerator on = new ParserGenerator();

    int token(int t) {
        return on.node(0, t, 0);
    }

    int call(int r) {
        return on.node(1, r, 0);
    }

    int then(int a, int b) {
        return on.node(2, a, b);
    }

    int or(int a, int b) {
        return on.node(3, a, b);
    }

    int maybe(int a) {
        return on.node(4, a, 0);
    }

    int many(int a) {
        return on.node(5, a, 0);
    }

    int nothing() {
        return on.node(6, 0, 0);
    }

    int ahead(int a, int b) {
        return on.node(7, a, b);
    }

    int named(int label, int b) {
        return on.node(8, label, b);
    }

    /** A node of the given level that parses nothing in 2^level - 1 steps. */
    int idle(int level) {
        int node = nothing();
        for (int i = 1; i < level; i++) {
            node = then(node, node);
        }
        return node;
    }

    /** A node of the given level, at least 2, that parses nothing and makes 2^(level - 2) trees of it. */
    int idleNamed(int level) {
        int node = named(0, nothing());
        for (int i = 2; i < level; i++) {
            node = then(node, node);
        }
        return node;
    }

    /** A node that parses nothing in 1498 steps and so many more, at most 5; it takes the rules 1 to 3. */
    int idleLong(int more) {
        on.rule(1, idle(6));
        int call = call(1);
        int two = then(call, call);
        int four = then(two, two);
        int eight = then(four, four);
        int sixteen = then(eight, eight);
        on.rule(3, slower(nothing(), more));
        on.rule(2, then(four, then(two, then(call, call(3)))));
        return then(sixteen, call(2));
    }

    /** A node that parses as b does, in so many steps more. */
    int slower(int b, int steps) {
        int node = b;
        for (int i = 0; i < steps; i++) {
            node = ahead(b, node);
        }
        return node;
    }

    int compileAs(int r, int node) {
        if (on.rule(r, node) != 0) {
            throw new IllegalArgumentException("rule " + r + " can't become node " + node);
        }
        return on.compile(r);
    }

    int parse(int... tokens) {
        on.wipe();
        for (int token : tokens) {
            on.feed(token);
        }
        return on.parse();
    }

    int parseRow(int token, int times) {
        on.wipe();
        for (int i = 0; i < times; i++) {
            on.feed(token);
        }
        return on.parse();
    }
}
