/** Counts the checks of a test, prints those that fail, and ends the test with its exit code. */
final class Checks {
    private final String test;
    private String sentence = "";
    private int right;
    private int wrong;

    Checks(String test) {
        this.test = test;
    }

    /** The sentence of the document, in its words, that the checks from here on are about. */
    void sentence(String words) {
        sentence = "[" + words + "] ";
    }

    void same(String what, long got, long due) {
        if (got == due) {
            right++;
        } else {
            wrong++;
            System.out.println(test + ": " + sentence + what + " answered " + got + ", due is " + due);
        }
    }

    void holds(String what, boolean held) {
        if (held) {
            right++;
        } else {
            wrong++;
            System.out.println(test + ": " + sentence + what);
        }
    }

    boolean allRight() {
        return wrong == 0;
    }

    void end() {
        System.out.println(test + ": " + right + " checks right, " + wrong + " wrong");
        if (wrong != 0 || right == 0) {
            System.exit(1);
        }
    }
}
