/** Compares answers with those that are due, and ends a test with exit code 1 if one was wrong. */
final class Due {
    private final String test;
    private int wrong;
    private int checks;

    Due(String test) {
        this.test = test;
    }

    void same(String what, long got, long want) {
        checks++;
        if (got != want) {
            wrong++;
            System.out.println(test + ": " + what + " answered " + got + ", due is " + want);
        }
    }

    void holds(String what, boolean truth) {
        checks++;
        if (!truth) {
            wrong++;
            System.out.println(test + ": " + what);
        }
    }

    void end() {
        System.out.println(test + ": " + checks + " checks, " + wrong + " wrong");
        if (wrong != 0) {
            System.exit(1);
        }
    }
}
