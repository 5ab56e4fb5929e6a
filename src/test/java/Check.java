/** Compares answers with those that are due, and ends a test with exit code 1 if one differs. */
final class Check {
    private final String name;
    private String sentence = "";
    private int asked = 0;
    private int askedBefore = 0;
    private int wrong = 0;

    Check(String name) {
        this.name = name;
    }

    /** The words of the document that the answers from here on hold to; each needs an answer. */
    void sentence(String where, String words) {
        dueForSentence();
        sentence = where + ", \"" + words + "\": ";
    }

    void due(String call, long got, long want) {
        due(call, Long.toString(got), Long.toString(want));
    }

    void due(String call, boolean got, boolean want) {
        due(call, got ? 1 : 0, want ? 1 : 0);
    }

    void due(String call, String got, String want) {
        asked++;
        if (!got.equals(want)) {
            wrong++;
            System.out.println(name + ": " + sentence + call + " answered " + got + ", due is " + want);
        }
    }

    void finish() {
        dueForSentence();
        System.out.println(name + ": " + asked + " answers, " + wrong + " wrong");
        if (wrong != 0 || asked == 0) {
            System.exit(1);
        }
    }

    private void dueForSentence() {
        if (!sentence.isEmpty() && asked == askedBefore) {
            wrong++;
            System.out.println(name + ": " + sentence + "nothing was asked");
        }
        askedBefore = asked;
    }
}
