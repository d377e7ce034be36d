/** Counts the answers of one test that are not as due, and ends it. */
final class Check {
    private final String name;
    private int asked = 0;
    private int wrong = 0;
    private String sentence = "";
    private int sentences = 0;
    private int askedBefore = 0;

    Check(String name) {
        this.name = name;
    }

    /** From here on the answers are those which these words of the document ask for. */
    void sentence(String words) {
        endSentence();
        sentence = words;
        sentences++;
        askedBefore = asked;
    }

    private void endSentence() {
        if (sentences > 0) {
            that("the sentence has a test of its own", asked > askedBefore);
        }
    }

    void due(String call, long got, long want) {
        asked++;
        if (got != want) {
            wrong++;
            if (wrong <= 40) {
                String where = sentence.isEmpty() ? "" : " [" + sentence + "]";
                System.out.println(name + where + ": " + call + " answered " + got + ", due is " + want);
            }
        }
    }

    void that(String what, boolean holds) {
        due(what, holds ? 1 : 0, 1);
    }

    /** A refusal changes nothing: what can be seen of the object is as it was. */
    void same(String call, Place x, long before, int finding) {
        due("digest() after " + call, x.digest(), before);
        due("count(6) after " + call, x.count(6), finding);
    }

    void end() {
        endSentence();
        String of = sentences > 0 ? sentences + " sentences, " : "";
        System.out.println(name + ": " + of + asked + " answers, " + wrong + " not as due");
        if (wrong != 0 || asked == 0) {
            System.exit(1);
        }
    }

    /** A new SHEET of shorts with these ROWS of 8 items. */
    static void fill(Place x, int s, int[]... rows) {
        x.sheet(s, 1, 8 * rows.length);
        for (int r = 0; r < rows.length; r++) {
            for (int k = 0; k < 8; k++) {
                x.lay(s, 1, 8 * r + k, k < rows[r].length ? rows[r][k] : -2);
            }
        }
    }
}
