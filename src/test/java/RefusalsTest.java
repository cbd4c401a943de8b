import java.util.ArrayList;
import java.util.List;
import java.util.function.Supplier;
import java.util.function.ToIntFunction;

/**
 * What 'Terms' say of calls that are refused: in which order they answer, that NONE comes behind all
 * refusals, and that what is refused changes nothing. Every refusal of every call is made on an object
 * in which everything has been changed, and that object is then compared, as far as any call tells of
 * it, with a twin on which the call was not made.
 */
public final class RefusalsTest extends Examples {
    private static final String GREYS_OF_ALL = "01234567/12345678/23456789/34567890/45678901/56789012/67890123/78901234";

    public static void main(String[] args) {
        firstThatFits();
        noneBehindRefusals();
        refusedOnPictures();
        refusedOnThePad();
        refusedOnSeams();
        refusedBothWays();
        refusedOnImages();
        askedOnly();
        checks.finish();
    }

    // ---- objects on which calls are made

    /** A picture of four by three by rule 1, a pad that lacks one sign as greys, image 0 of another size. */
    private static SeamPictures lackingOneSign() {
        SeamPictures x = picture("93/27", "k./.g");
        x.image(0);
        x.size(4, 3);
        saying(x, "1520/7390/4869").lay(0);
        saying(x, "kkk./g..g/...k").lay(1);
        x.rule(1);
        return saying(x, "3141/5926/535");
    }

    /** The same with a pad that lacks one sign as marks, and with both images, and by rule 0. */
    private static SeamPictures lackingOneMark() {
        SeamPictures x = lackingOneSign();
        x.image(1);
        x.grey(3, 2, 7);
        x.rule(0);
        x.wipe();
        return saying(x, "g.k./.kg./g..");
    }

    private static SeamPictures twoByTwo() {
        SeamPictures x = lackingOneSign();
        x.image(1);
        x.size(2, 2);
        x.wipe();
        saying(x, "14/92").lay(0);
        x.mark(1, 0, 1);
        x.mark(0, 1, 2);
        return saying(x, "kk/g");
    }

    private static SeamPictures eightByEight() {
        SeamPictures x = lackingOneSign();
        x.wipe();
        x.size(8, 8);
        saying(x, GREYS_OF_ALL).lay(0);
        x.mark(6, 7, 1);
        x.mark(7, 6, 2);
        return saying(x, "12345678/");
    }

    private static SeamPictures fullPad() {
        SeamPictures x = eightByEight();
        for (int i = 9; i < 80; i++) {
            x.say(i < 71 ? GREYS_OF_ALL.charAt(i) : '7');
        }
        return x;
    }

    // ---- all that an object tells

    /**
     * All that can be told of an object in at most 300 calls: what calls answer now, what lies on the
     * pad, and what is in the images. It changes the object.
     */
    private static List<Integer> allOf(SeamPictures x) {
        List<Integer> told = new ArrayList<>();
        lookAt(x, told);
        for (int way = 0; way <= 1; way++) {
            for (int i = -1; i < 9; i++) {
                told.add(x.seam(way, i));
            }
        }
        told.add(x.fault(0));
        told.add(x.fault(1));
        // The sign that a pad lacks, so that what is on it is seen on the picture.
        told.add(x.say(told.get(told.size() - 1) > 0 ? 'k' : '9'));
        told.add(x.lay(0));
        told.add(x.lay(1));
        if (x.count(0) < 8) {
            lookAt(x, told);
        }
        for (int k = 0; k <= 1; k++) {
            told.add(x.restore(k));
            if (x.count(0) < 8) {
                lookAt(x, told);
            }
        }
        return told;
    }

    private static void lookAt(SeamPictures x, List<Integer> told) {
        for (int what = 0; what < 8; what++) {
            told.add(x.count(what));
        }
        int wide = x.count(0);
        int high = x.count(1);
        for (int y = 0; y < high; y++) {
            for (int i = 0; i < wide; i++) {
                told.add(x.dot(i, y, 0));
                told.add(x.dot(i, y, 1));
            }
        }
    }

    /** Whether a call on an object that was made so answers this and leaves all as it was. */
    private static void leaves(Supplier<SeamPictures> made, int want, String call, ToIntFunction<SeamPictures> calling) {
        SeamPictures x = made.get();
        due(call, calling.applyAsInt(x), want);
        due(call + " again", calling.applyAsInt(x), want);
        List<Integer> told = allOf(x);
        List<Integer> due = allOf(made.get());
        checks.holds(call + " leaves all as it was: " + told + ", due is " + due, told.equals(due));
    }

    // ---- the order of refusals

    private static void firstThatFits() {
        checks.about("Terms: the first that fits, in the order in which they are told: promise 3: UNKNOWN; OUTSIDE");
        due("grey(4, 0, 10)", lackingOneSign().grey(4, 0, 10), UNKNOWN);
        due("grey(0, 3, -1)", lackingOneSign().grey(0, 3, -1), UNKNOWN);
        due("grey(-1, 0, most)", lackingOneSign().grey(-1, 0, MOST), UNKNOWN);
        checks.about("Terms: the first that fits: promise 4: UNKNOWN; OUTSIDE");
        due("mark(4, 0, 3)", lackingOneSign().mark(4, 0, 3), UNKNOWN);
        due("mark(0, 3, -1)", lackingOneSign().mark(0, 3, -1), UNKNOWN);
        due("mark(0, -1, most)", lackingOneSign().mark(0, -1, MOST), UNKNOWN);
        checks.about("Terms: the first that fits: promise 6: UNKNOWN; OUTSIDE");
        due("dot(4, 0, 4)", lackingOneSign().dot(4, 0, 4), UNKNOWN);
        due("dot(0, 3, -1)", lackingOneSign().dot(0, 3, -1), UNKNOWN);
        due("dot(-1, -1, most)", lackingOneSign().dot(-1, -1, MOST), UNKNOWN);
        checks.about("Terms: the first that fits: promise 7: OUTSIDE; FULL");
        due("say(32), full", fullPad().say(32), OUTSIDE);
        due("say(127), full", fullPad().say(127), OUTSIDE);
        due("say(33), full", fullPad().say(33), FULL);
        due("say(126), full", fullPad().say(126), FULL);
        checks.about("Terms: the first that fits: promise 10: OUTSIDE; FAULT");
        due("lay(2), a sign lacking", lackingOneSign().lay(2), OUTSIDE);
        due("lay(-1), a sign lacking", lackingOneSign().lay(-1), OUTSIDE);
        due("lay(0), a sign lacking", lackingOneSign().lay(0), FAULT);
        checks.about("Terms: the first that fits: promise 12: OUTSIDE; NO");
        due("cost(2, 9999)", lackingOneSign().cost(2, 9999), OUTSIDE);
        due("cost(-1, 20)", lackingOneSign().cost(-1, 20), OUTSIDE);
        due("cost(0, -2), whose figures are no SEAM", lackingOneSign().cost(0, -2), OUTSIDE);
        due("cost(0, 2)", lackingOneSign().cost(0, 2), NO);
        checks.about("Terms: the first that fits: promise 13: OUTSIDE; STATE");
        due("cut(2), two by two", twoByTwo().cut(2), OUTSIDE);
        due("cut(-1), two by two", twoByTwo().cut(-1), OUTSIDE);
        checks.about("Terms: the first that fits: promise 14: OUTSIDE; STATE");
        due("add(2), eight by eight", eightByEight().add(2), OUTSIDE);
        due("add(-1), eight by eight", eightByEight().add(-1), OUTSIDE);
        checks.about("Terms: the first that fits: promise 15, told the other way round: OUTSIDE: way; UNKNOWN");
        due("least(2, 9)", lackingOneSign().least(2, 9), OUTSIDE);
        due("least(-1, -1)", lackingOneSign().least(-1, -1), OUTSIDE);
        due("least(0, 3)", lackingOneSign().least(0, 3), UNKNOWN);
        due("least(1, 4)", lackingOneSign().least(1, 4), UNKNOWN);
        checks.about("Terms: the first that fits: promise 20: OUTSIDE; STATE");
        due("restore(2), nothing kept", new SeamPictures().restore(2), OUTSIDE);
        due("restore(-1), nothing kept", new SeamPictures().restore(-1), OUTSIDE);
        due("restore(1), nothing kept", new SeamPictures().restore(1), STATE);
    }

    private static void noneBehindRefusals() {
        checks.about("Terms: NONE -6 is answered only where no refusal fits: promise 9");
        SeamPictures x = saying(blank(2, 2), "12/34");
        due("fault(2) of a right pad", x.fault(2), OUTSIDE);
        due("fault(-1) of a right pad", x.fault(-1), OUTSIDE);
        due("fault(0) of a right pad", x.fault(0), NONE);
        checks.about("Terms: NONE -6 is answered only where no refusal fits: promise 11");
        due("seam(2, 4)", x.seam(2, 4), OUTSIDE);
        due("seam(-1, most)", x.seam(-1, MOST), OUTSIDE);
        due("seam(0, 2)", x.seam(0, 2), NONE);
        due("seam(1, 2)", x.seam(1, 2), NONE);
        checks.about("Terms: NONE -6 is answered only where no refusal fits: promise 17");
        due("table(1, 0, 89)", x.table(1, 0, 89), OUTSIDE);
        due("table(0, 1, 89)", x.table(0, 1, 89), OUTSIDE);
        due("table(-1, 0, 89)", x.table(-1, 0, 89), OUTSIDE);
        due("table(0, -1, 89)", x.table(0, -1, 89), OUTSIDE);
        due("table(0, 0, 90)", x.table(0, 0, 90), OUTSIDE);
        due("table(0, 0, 89)", x.table(0, 0, 89), NONE);
        x.size(8, 8);
        due("table(4, 3, 89)", x.table(4, 3, 89), OUTSIDE);
        due("table(3, 3, 89)", x.table(3, 3, 89), NONE);
    }

    // ---- what is refused changes nothing

    private static void refusedOnPictures() {
        Supplier<SeamPictures> made = RefusalsTest::lackingOneSign;
        checks.about("Terms: What is refused changes nothing: promise 2");
        leaves(made, OUTSIDE, "size(1, 3)", x -> x.size(1, 3));
        leaves(made, OUTSIDE, "size(9, 3)", x -> x.size(9, 3));
        leaves(made, OUTSIDE, "size(3, 1)", x -> x.size(3, 1));
        leaves(made, OUTSIDE, "size(3, 9)", x -> x.size(3, 9));
        leaves(made, OUTSIDE, "size(least, most)", x -> x.size(LEAST, MOST));
        checks.about("Terms: What is refused changes nothing: promise 3");
        leaves(made, UNKNOWN, "grey(4, 0, 5)", x -> x.grey(4, 0, 5));
        leaves(made, UNKNOWN, "grey(0, 3, 5)", x -> x.grey(0, 3, 5));
        leaves(made, UNKNOWN, "grey(-1, 1, 5)", x -> x.grey(-1, 1, 5));
        leaves(made, UNKNOWN, "grey(1, -1, 5)", x -> x.grey(1, -1, 5));
        leaves(made, OUTSIDE, "grey(0, 0, 10)", x -> x.grey(0, 0, 10));
        leaves(made, OUTSIDE, "grey(0, 0, -1)", x -> x.grey(0, 0, -1));
        checks.about("Terms: What is refused changes nothing: promise 4");
        leaves(made, UNKNOWN, "mark(4, 0, 2)", x -> x.mark(4, 0, 2));
        leaves(made, UNKNOWN, "mark(0, 3, 2)", x -> x.mark(0, 3, 2));
        leaves(made, UNKNOWN, "mark(-1, 1, 2)", x -> x.mark(-1, 1, 2));
        leaves(made, UNKNOWN, "mark(1, -1, 2)", x -> x.mark(1, -1, 2));
        leaves(made, OUTSIDE, "mark(0, 0, 3)", x -> x.mark(0, 0, 3));
        leaves(made, OUTSIDE, "mark(0, 0, -1)", x -> x.mark(0, 0, -1));
        checks.about("Terms: What is refused changes nothing: promise 5");
        leaves(made, OUTSIDE, "rule(2)", x -> x.rule(2));
        leaves(made, OUTSIDE, "rule(-1)", x -> x.rule(-1));
        leaves(RefusalsTest::lackingOneMark, OUTSIDE, "rule(2), from 0", x -> x.rule(2));
        checks.about("Terms: What is refused changes nothing: promise 6");
        leaves(made, UNKNOWN, "dot(4, 0, 0)", x -> x.dot(4, 0, 0));
        leaves(made, OUTSIDE, "dot(0, 0, 4)", x -> x.dot(0, 0, 4));
    }

    private static void refusedOnThePad() {
        Supplier<SeamPictures> greys = RefusalsTest::lackingOneSign;
        Supplier<SeamPictures> marks = RefusalsTest::lackingOneMark;
        checks.about("Terms: What is refused changes nothing: promise 7");
        leaves(greys, OUTSIDE, "say(32)", x -> x.say(32));
        leaves(greys, OUTSIDE, "say(127)", x -> x.say(127));
        leaves(marks, OUTSIDE, "say(0)", x -> x.say(0));
        leaves(RefusalsTest::fullPad, FULL, "say(55), full", x -> x.say(55));
        leaves(RefusalsTest::fullPad, OUTSIDE, "say(32), full", x -> x.say(32));
        checks.about("Terms: What is refused changes nothing: promise 9");
        leaves(greys, OUTSIDE, "fault(2)", x -> x.fault(2));
        leaves(greys, OUTSIDE, "fault(-1)", x -> x.fault(-1));
        checks.about("Terms: What is refused changes nothing: promise 10");
        leaves(greys, OUTSIDE, "lay(2)", x -> x.lay(2));
        leaves(greys, OUTSIDE, "lay(-1)", x -> x.lay(-1));
        leaves(greys, FAULT, "lay(0), a sign lacking", x -> x.lay(0));
        leaves(greys, FAULT, "lay(1) of greys", x -> x.lay(1));
        leaves(marks, FAULT, "lay(0) of marks", x -> x.lay(0));
        leaves(marks, FAULT, "lay(1), a sign lacking", x -> x.lay(1));
        leaves(RefusalsTest::fullPad, FAULT, "lay(0), signs too many", x -> x.lay(0));
        leaves(RefusalsTest::twoByTwo, FAULT, "lay(1), two by two", x -> x.lay(1));
    }

    private static void refusedOnSeams() {
        Supplier<SeamPictures> made = RefusalsTest::lackingOneSign;
        checks.about("Terms: What is refused changes nothing: promise 11");
        leaves(made, OUTSIDE, "seam(2, 0)", x -> x.seam(2, 0));
        leaves(made, OUTSIDE, "seam(0, -2)", x -> x.seam(0, -2));
        checks.about("Terms: What is refused changes nothing: promise 12");
        leaves(made, OUTSIDE, "cost(2, 0)", x -> x.cost(2, 0));
        leaves(made, OUTSIDE, "cost(0, -1)", x -> x.cost(0, -1));
        leaves(made, NO, "cost(0, 444)", x -> x.cost(0, 444));
        leaves(made, NO, "cost(1, 1111111111)", x -> x.cost(1, 1111111111));
        checks.about("Terms: What is refused changes nothing: promise 13");
        leaves(made, OUTSIDE, "cut(2)", x -> x.cut(2));
        leaves(made, OUTSIDE, "cut(-1)", x -> x.cut(-1));
        leaves(RefusalsTest::twoByTwo, STATE, "cut(0), two by two", x -> x.cut(0));
        leaves(RefusalsTest::twoByTwo, STATE, "cut(1), two by two", x -> x.cut(1));
        checks.about("Terms: What is refused changes nothing: promise 14");
        leaves(made, OUTSIDE, "add(2)", x -> x.add(2));
        leaves(made, OUTSIDE, "add(-1)", x -> x.add(-1));
        leaves(RefusalsTest::eightByEight, STATE, "add(0), eight by eight", x -> x.add(0));
        leaves(RefusalsTest::eightByEight, STATE, "add(1), eight by eight", x -> x.add(1));
        checks.about("Terms: What is refused changes nothing: promise 15");
        leaves(made, OUTSIDE, "least(2, 0)", x -> x.least(2, 0));
        leaves(made, UNKNOWN, "least(0, 3)", x -> x.least(0, 3));
        leaves(made, UNKNOWN, "least(1, 4)", x -> x.least(1, 4));
        leaves(made, UNKNOWN, "least(1, -1)", x -> x.least(1, -1));
    }

    private static void refusedBothWays() {
        Supplier<SeamPictures> made = RefusalsTest::lackingOneSign;
        int[][] wrong = {{3, 0}, {0, 2}, {-1, 0}, {0, -1}, {LEAST, MOST}};
        for (int[] w : wrong) {
            String of = "(" + w[0] + ", " + w[1];
            checks.about("Terms: What is refused changes nothing: promise 16");
            leaves(made, OUTSIDE, "best" + of + ", 0)", x -> x.best(w[0], w[1], 0));
            checks.about("Terms: What is refused changes nothing: promise 17");
            leaves(made, OUTSIDE, "table" + of + ", 0)", x -> x.table(w[0], w[1], 0));
            checks.about("Terms: What is refused changes nothing: promise 18");
            leaves(made, OUTSIDE, "go" + of + ")", x -> x.go(w[0], w[1]));
        }
        leaves(RefusalsTest::eightByEight, OUTSIDE, "go(4, 3)", x -> x.go(4, 3));
        leaves(RefusalsTest::twoByTwo, OUTSIDE, "go(1, 0), two by two", x -> x.go(1, 0));
        leaves(RefusalsTest::twoByTwo, OUTSIDE, "go(0, 1), two by two", x -> x.go(0, 1));
        checks.about("Terms: What is refused changes nothing: promise 16, what");
        leaves(made, OUTSIDE, "best(1, 1, 4)", x -> x.best(1, 1, 4));
        leaves(made, OUTSIDE, "best(1, 1, -1)", x -> x.best(1, 1, -1));
        checks.about("Terms: What is refused changes nothing: promise 17, what");
        leaves(made, OUTSIDE, "table(1, 1, 9)", x -> x.table(1, 1, 9));
        leaves(made, OUTSIDE, "table(1, 1, 90)", x -> x.table(1, 1, 90));
    }

    private static void refusedOnImages() {
        Supplier<SeamPictures> one = RefusalsTest::lackingOneSign;
        Supplier<SeamPictures> both = RefusalsTest::lackingOneMark;
        checks.about("Terms: What is refused changes nothing: promise 19");
        leaves(one, OUTSIDE, "image(2)", x -> x.image(2));
        leaves(both, OUTSIDE, "image(-1)", x -> x.image(-1));
        checks.about("Terms: What is refused changes nothing: promise 20");
        leaves(one, STATE, "restore(1), nothing kept", x -> x.restore(1));
        leaves(both, OUTSIDE, "restore(2)", x -> x.restore(2));
        leaves(both, OUTSIDE, "restore(-1)", x -> x.restore(-1));
        checks.about("Terms: What is refused changes nothing: promise 21");
        leaves(one, OUTSIDE, "count(8)", x -> x.count(8));
        leaves(one, OUTSIDE, "count(-1)", x -> x.count(-1));
    }

    /** Calls that only tell something change nothing either; their answers stand in PromisesTest. */
    private static void askedOnly() {
        checks.about("Nothing is promised beyond the .. state changes described: calls that tell something change nothing");
        for (Supplier<SeamPictures> made : List.<Supplier<SeamPictures>>of(
                RefusalsTest::lackingOneSign, RefusalsTest::lackingOneMark, RefusalsTest::twoByTwo)) {
            int most = made.get().count(0) - 2;
            asked(made, "dot", x -> x.dot(1, 1, 3));
            asked(made, "fault(0)", x -> x.fault(0));
            asked(made, "fault(1)", x -> x.fault(1));
            asked(made, "seam(0, -1)", x -> x.seam(0, -1));
            asked(made, "seam(1, 1)", x -> x.seam(1, 1));
            asked(made, "seam(1, 8)", x -> x.seam(1, 8));
            asked(made, "cost(0, 11)", x -> x.cost(0, 11));
            asked(made, "least(0, 1)", x -> x.least(0, 1));
            asked(made, "best", x -> x.best(most, most > 0 ? 1 : 0, 0));
            asked(made, "table", x -> x.table(most, most > 0 ? 1 : 0, 0));
            asked(made, "table of a DOT", x -> x.table(most, most > 0 ? 1 : 0, 10));
            asked(made, "count", x -> x.count(2));
        }
    }

    private static void asked(Supplier<SeamPictures> made, String call, ToIntFunction<SeamPictures> calling) {
        leaves(made, calling.applyAsInt(made.get()), call, calling);
    }
}
