/** Counts the answers that are not as due, prints each of them, and ends a test with 1 if there was one. */
final class Check {
    private String sentence = "";
    private int asked = 0;
    private int wrong = 0;

    /**
     * The sentence of the document that the answers from here on hang on: its section, its words.
     * SentencesTest looks whether it stands there.
     */
    void sentence(String where, String words) {
        sentence = where + ", \"" + words + "\": ";
    }

    void due(String call, long got, long want) {
        asked++;
        if (got != want) {
            wrong++;
            System.out.println(sentence + call + " answered " + got + ", due is " + want);
        }
    }

    boolean isRight() {
        return wrong == 0;
    }

    void end() {
        System.out.println(wrong == 0 ? asked + " answers are as due" : wrong + " answers are not as due");
        if (wrong != 0) {
            System.exit(1);
        }
    }
}
