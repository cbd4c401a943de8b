/** Counts the answers of a test that are not the ones that are due, and prints them. */
final class Checks {
    private int asDue = 0;
    private int wrong = 0;

    void due(String call, long got, long want) {
        if (got == want) {
            asDue++;
            return;
        }
        wrong++;
        if (wrong <= 50) {
            System.out.println(call + " answered " + got + ", due is " + want);
        }
    }

    void holds(String what, boolean does) {
        due(what, does ? 1 : 0, 1);
    }

    /** Ends the program with exit code 1 if anything was wrong or nothing was looked at. */
    void finish() {
        System.out.println(asDue + " answers as due, " + wrong + " not");
        if (wrong > 0 || asDue == 0) {
            System.exit(1);
        }
    }
}
