/** Counts answers that are due, and prints those that differ. */
final class Due {
    private static final int MOST_PRINTED = 40;

    private final String name;
    private String sentence = "";
    private int right;
    private int wrong;

    Due(String name) {
        this.name = name;
    }

    /** The sentence of the document that the answers from here on are of. */
    void sentence(String words) {
        sentence = "\"" + words + "\": ";
    }

    void same(String call, long got, long want) {
        if (got == want) {
            right++;
            return;
        }
        wrong++;
        if (wrong <= MOST_PRINTED) {
            System.out.println(name + ": " + sentence + call + " answered " + got + ", due is " + want);
        }
    }

    void holds(String what, boolean it) {
        same(what, it ? 1 : 0, 1);
    }

    boolean failed() {
        return wrong > 0;
    }

    /** Ends the machine with 1 if an answer was not as due. */
    void end() {
        System.out.println(name + ": " + right + " passed, " + wrong + " failed");
        if (wrong > 0) {
            System.exit(1);
        }
    }
}
