/** Compares answers with those that are due, and ends a test with exit code 1 if one was wrong. */
final class Due {
    private final String test;
    private String sentence = "";
    private int wrong;
    private int checks;

    Due(String test) {
        this.test = test;
    }

    /** What is compared from here on holds this sentence; it is told with each wrong answer. */
    void about(String sentenceHeld) {
        sentence = sentenceHeld + ": ";
    }

    void same(String what, long got, long want) {
        holds(what + " answered " + got + ", due is " + want, got == want);
    }

    void holds(String what, boolean truth) {
        checks++;
        if (!truth) {
            wrong++;
            System.out.println(test + ": " + sentence + what);
        }
    }

    int checks() {
        return checks;
    }

    void end() {
        System.out.println(test + ": " + checks + " checks, " + wrong + " wrong");
        if (wrong != 0) {
            System.exit(1);
        }
    }
}
