/** Counts and prints answers that are not as due. */
final class Check {
    private int wrong = 0;
    private int seen = 0;
    private String words = "";

    /** The document's words that the checks from here on are about. */
    void sentence(String quoted) {
        words = "\"" + quoted + "\": ";
    }

    void due(String what, long got, long want) {
        seen++;
        if (got != want) {
            fail(what + " answered " + got + ", due is " + want);
        }
    }

    void same(String what, String got, String want) {
        seen++;
        if (!got.equals(want)) {
            fail(what + " is\n" + got + "\ndue is\n" + want);
        }
    }

    private void fail(String what) {
        wrong++;
        if (wrong <= 50) {
            System.out.println(words + what);
        }
    }

    void that(String what, boolean holds) {
        due(what, holds ? 1 : 0, 1);
    }

    int wrong() {
        return wrong;
    }

    void end(String name) {
        System.out.println(name + ": " + seen + " checks, " + wrong + " wrong");
        if (wrong != 0) {
            System.exit(1);
        }
    }

    static void feed(SandTreaty treaty, String text) {
        for (int i = 0; i < text.length(); i++) {
            treaty.feed(text.charAt(i));
        }
    }

    /** A new object with this strand. */
    static SandTreaty on(String text) {
        SandTreaty treaty = new SandTreaty();
        feed(treaty, text);
        int answer = treaty.strand();
        if (answer < 0) {
            throw new IllegalStateException("the test's own text has a fault: " + text + " " + answer);
        }
        return treaty;
    }
}
