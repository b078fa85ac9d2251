/** Compares answers with those that are due, prints the wrong ones, and ends the test. */
final class Due {
    static final int LEAST = Integer.MIN_VALUE;
    static final int GREATEST = Integer.MAX_VALUE;

    private String sentence = "";
    private int looked;
    private int wrong;

    /** The words of the document that the answers from here on are to show. */
    void sentence(String words) {
        sentence = words;
    }

    void is(String call, long got, long want) {
        looked++;
        if (got != want) {
            wrong++;
            System.out.println(call + " answered " + got + ", due is " + want
                    + (sentence.isEmpty() ? "" : "  [" + sentence + "]"));
        }
    }

    void is(String call, boolean got, boolean want) {
        is(call, got ? 1 : 0, want ? 1 : 0);
    }

    /** Exit code 1 if an answer was wrong, or if the test looked at none. */
    void end() {
        if (wrong > 0 || looked == 0) {
            System.out.println(wrong + " of " + looked + " answers are not as due");
            System.exit(1);
        }
    }
}
