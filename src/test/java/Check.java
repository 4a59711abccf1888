/** Counts and prints the answers that are not as due. */
final class Check {
    private final String name;
    private String sentence = "";
    private int sentences;
    private int asked;
    private int askedBefore;
    private int wrong;

    Check(String name) {
        this.name = name;
    }

    /** What follows tries this sentence of the document. */
    void about(String words) {
        endSentence();
        sentence = " [" + words + "]";
        sentences++;
    }

    void due(String call, long got, long want) {
        asked++;
        if (got != want) {
            wrong++;
            System.out.println(name + sentence + ": " + call + " answered " + got + ", due is "
                + want);
        }
    }

    void due(String call, boolean got, boolean want) {
        due(call, got ? 1L : 0L, want ? 1L : 0L);
    }

    void same(String what, String got, String want) {
        asked++;
        if (!got.equals(want)) {
            wrong++;
            System.out.println(name + sentence + ": " + what + ":\n  it is  " + got
                + "\n  due is " + want);
        }
    }

    /** Ends the program: with exit code 1 if an answer was wrong, or none was asked for. */
    void end() {
        endSentence();
        String of = sentences > 0 ? sentences + " sentences, " : "";
        System.out.println(name + ": " + of + asked + " answers, " + wrong + " not as due");
        System.exit(wrong == 0 && asked > 0 ? 0 : 1);
    }

    /** A sentence for which nothing was asked is not tested, whatever its heading says. */
    private void endSentence() {
        if (sentences > 0 && asked == askedBefore) {
            due("asked nothing", true, false);
        }
        askedBefore = asked;
    }
}
