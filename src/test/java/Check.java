/** Counts and prints the answers that are not the ones due. */
final class Check {
    private int wrong = 0;
    private int asked = 0;
    private String sentence = "";

    /** The words of the document that the answers from here on are due by. */
    void by(String words) {
        sentence = "\"" + words + "\" ";
    }

    void due(String call, long got, long want) {
        asked++;
        if (got != want) {
            wrong++;
            System.out.println(sentence + call + " answered " + got + ", due is " + want);
        }
    }

    void due(String call, boolean got, boolean want) {
        due(call, got ? 1 : 0, want ? 1 : 0);
    }

    void end() {
        System.out.println(asked - wrong + " of " + asked + " answers are as due");
        if (wrong != 0) {
            System.exit(1);
        }
    }
}
