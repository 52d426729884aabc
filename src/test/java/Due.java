/** Compares answers with those that are due, and prints each that differs. */
final class Due {
    private int wrong = 0;
    private int looked = 0;
    private String sentence = "";

    /** The answers from here on are due by this sentence of the document: its promise or term, and its words. */
    void by(String place, String words) {
        sentence = place + ", \"" + words + "\": ";
    }

    void is(String call, long got, long want) {
        looked++;
        if (got != want) {
            wrong++;
            System.out.println(sentence + call + " answered " + got + ", due is " + want);
        }
    }

    void is(String call, boolean got, boolean want) {
        is(call, got ? 1 : 0, want ? 1 : 0);
    }

    void yes(String call, boolean got) {
        is(call, got, true);
    }

    void no(String call, boolean got) {
        is(call, got, false);
    }

    boolean failed() {
        return wrong != 0;
    }

    void end() {
        System.out.println(wrong == 0 ? looked + " answers are as due" : wrong + " answers are not as due");
        if (wrong != 0) System.exit(1);
    }
}
