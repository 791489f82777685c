/** Compares answers with those that are due, and tells at the end whether all were. */
final class Check {
    private int checks;
    private int wrong;

    void same(String what, long got, long due) {
        checks++;
        if (got != due) {
            wrong++;
            System.out.println(what + " answered " + got + ", due is " + due);
        }
    }

    void holds(String what, boolean truth) {
        same(what, truth ? 1 : 0, 1);
    }

    void end(String test) {
        System.out.println(test + ": " + checks + " checks, " + wrong + " wrong");
        if (checks == 0 || wrong != 0) {
            System.exit(1);
        }
    }
}
