/** Counts and prints the calls whose answer is not the one that is due. */
final class Check {
    private int wrong;
    private int checked;
    private int sentences;
    private String sentence = "";

    /** The document's words that the answers from here on are due by. */
    void sentence(String words) {
        sentence = "\"" + words + "\": ";
        sentences++;
    }

    void due(String call, long got, long want) {
        checked++;
        if (got != want) {
            wrong++;
            System.out.println(sentence + call + " answered " + got + ", due is " + want);
        }
    }

    void due(String call, boolean got, boolean want) {
        due(call, got ? 1L : 0L, want ? 1L : 0L);
    }

    int wrong() {
        return wrong;
    }

    void end() {
        String of = sentences > 0 ? " for " + sentences + " sentences" : "";
        System.out.println(checked + " answers" + of + ", " + wrong + " not as due");
        if (wrong != 0) {
            System.exit(1);
        }
    }
}
