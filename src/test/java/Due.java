/** Counts the answers that are not as due, and prints each of them. */
final class Due {
    private int wrong = 0;
    private String sentence = "";

    /** A sentence of the document with its own test; what is thrown there leaves the other sentences' tests alone. */
    void sentence(String where, String words, Runnable test) {
        sentence = where + " \"" + words + "\" ";
        try {
            test.run();
        } catch (RuntimeException e) {
            wrong++;
            System.out.println(sentence + "threw " + e);
        }
        sentence = "";
    }

    void is(String call, long got, long want) {
        if (got != want) {
            wrong++;
            System.out.println(sentence + call + " answered " + got + ", due is " + want);
        }
    }

    void is(String call, boolean got, boolean want) {
        is(call, got ? 1 : 0, want ? 1 : 0);
    }

    void end() {
        if (wrong != 0) {
            System.out.println(wrong + " answers are not as due");
            System.exit(1);
        }
    }
}
