/** Counts the answers of a test that are not the ones that are due, and prints them. */
final class Checks {
    private int asDue = 0;
    private int wrong = 0;
    private int lookedAtBefore = 0;
    private String sentence = "";

    /** What is looked at from here on is what this sentence of the document says. */
    void about(String words) {
        endSentence();
        sentence = words;
        lookedAtBefore = asDue + wrong;
    }

    void due(String call, long got, long want) {
        if (got == want) {
            asDue++;
            return;
        }
        wrong++;
        if (wrong <= 50) {
            System.out.println((sentence.isEmpty() ? "" : "[" + sentence + "] ")
                    + call + " answered " + got + ", due is " + want);
        }
    }

    void holds(String what, boolean does) {
        due(what, does ? 1 : 0, 1);
    }

    /** A sentence for which nothing was looked at has no test. */
    private void endSentence() {
        if (!sentence.isEmpty() && lookedAtBefore == asDue + wrong) {
            wrong++;
            System.out.println("[" + sentence + "] nothing was looked at");
        }
    }

    /** Ends the program with exit code 1 if anything was wrong or nothing was looked at. */
    void finish() {
        endSentence();
        System.out.println(asDue + " answers as due, " + wrong + " not");
        if (wrong > 0 || asDue == 0) {
            System.exit(1);
        }
    }
}
