/** The boundary cases of promises 19 to 21 and of the constants, and the last of 512 calls. */
public final class ImageBoundariesTest extends Examples {
    private static final int[] NO_IMAGES = {LEAST, -2, -1, 2, 3, MOST};

    public static void main(String[] args) {
        imagesThatThereAre();
        imageKeepsAll();
        imageInPlaceOfAnother();
        restoreOfNothing();
        restoreLeavesPadAndImages();
        restoreOfOtherSizes();
        whatOfCount();
        countAtItsLimits();
        constants();
        lastCall();
        checks.finish();
    }

    private static void imagesThatThereAre() {
        checks.about("Promise 19: in an IMAGE (0, 1): 1; OUTSIDE");
        SeamPictures x = new SeamPictures();
        for (int k : NO_IMAGES) {
            due("image(" + k + ")", x.image(k), OUTSIDE);
            due("IMAGES after image(" + k + ")", x.count(7), 0);
        }
        due("image(0)", x.image(0), 1);
        due("image(1)", x.image(1), 1);
        for (int k : NO_IMAGES) {
            due("image(" + k + ")", x.image(k), OUTSIDE);
        }
        checks.about("Promise 20: restore: 1; OUTSIDE");
        for (int k : NO_IMAGES) {
            due("restore(" + k + ")", x.restore(k), OUTSIDE);
        }
        due("restore(0)", x.restore(0), 1);
        due("restore(1)", x.restore(1), 1);
    }

    private static void imageKeepsAll() {
        checks.about("Promise 19: All but THE PAD and IMAGES is kept; promise 20: is as it was when it was kept");
        for (int k = 0; k <= 1; k++) {
            SeamPictures x = picture("152/739", "k.g/.k.");
            x.rule(1);
            due("image(" + k + ")", x.image(k), 1);
            duePicture("image(" + k + ") changes no DOT", x, "152/739", "k.g/.k.");
            due("image(" + k + ") leaves THE RULE", x.count(5), 1);
            x.rule(0);
            x.size(8, 8);
            x.grey(7, 7, 9);
            due("restore(" + k + ")", x.restore(k), 1);
            duePicture("restore(" + k + ")", x, "152/739", "k.g/.k.");
            due("THE RULE after restore(" + k + ")", x.count(5), 1);
        }
        checks.about("Promise 20: THE RULE is as it was when it was kept, 0 too");
        SeamPictures x = new SeamPictures();
        x.image(0);
        x.rule(1);
        x.restore(0);
        due("THE RULE", x.count(5), 0);
    }

    private static void imageInPlaceOfAnother() {
        checks.about("Promise 19: in place of what was kept there");
        SeamPictures x = picture("11/11", "kk/kk");
        x.image(0);
        x.image(1);
        x.size(3, 2);
        due("image(0) again", x.image(0), 1);
        x.restore(0);
        duePicture("the later one", x, "000/000", ".../...");
        x.restore(1);
        duePicture("the other one stays", x, "11/11", "kk/kk");
        due("IMAGES", x.count(7), 3);
    }

    private static void restoreOfNothing() {
        checks.about("Promise 20: STATE: nothing was kept in it");
        for (int k = 0; k <= 1; k++) {
            SeamPictures x = blank(3, 2);
            due("restore(" + k + "), nothing kept", x.restore(k), STATE);
            x.image(1 - k);
            due("restore(" + k + "), the other kept", x.restore(k), STATE);
            x.size(5, 5);
            due("restore(" + k + ") still", x.restore(k), STATE);
            dueSize("refused", x, 5, 5);
            x.image(k);
            due("restore(" + k + "), kept", x.restore(k), 1);
            due("restore(" + k + ") once more", x.restore(k), 1);
        }
    }

    private static void restoreLeavesPadAndImages() {
        checks.about("Promise 20: the IMAGE stays");
        SeamPictures x = picture("152/739", "k.g/.k.");
        x.image(1);
        for (int time = 0; time < 3; time++) {
            x.size(2 + time, 8);
            due("restore(1), time " + time, x.restore(1), 1);
            duePicture("restore(1), time " + time, x, "152/739", "k.g/.k.");
            due("IMAGES", x.count(7), 2);
            // What is changed after it came back is not changed in what is kept.
            x.grey(0, 0, 8);
            x.mark(1, 0, 2);
            x.add(0);
            x.rule(1);
        }
        x.restore(1);
        due("THE RULE in the IMAGE", x.count(5), 0);
        checks.about("Promises 19, 20: All but THE PAD: it is not kept, nor does it come back");
        x = saying(blank(2, 2), "12/3");
        due("image(0)", x.image(0), 1);
        due("signs after image(0)", x.count(6), 4);
        due("say", x.say('4'), 5);
        due("restore(0)", x.restore(0), 1);
        due("signs after restore(0)", x.count(6), 5);
        due("lay(0)", x.lay(0), 4);
        x.restore(0);
        due("THE PAD stays empty", x.count(6), 0);
        checks.about("Promises 19, 20: All but IMAGES: what an IMAGE was when it was kept does not come back");
        x = blank(2, 2);
        x.image(0);
        x.size(3, 3);
        x.image(1);
        x.restore(0);
        due("IMAGES after restore(0)", x.count(7), 3);
        due("restore(1)", x.restore(1), 1);
        dueSize("restore(1)", x, 3, 3);
    }

    private static void restoreOfOtherSizes() {
        checks.about("Promise 20: is as it was when it was kept: the least PICTURE and the greatest");
        SeamPictures x = picture("98/76", "kg/gk");
        x.image(0);
        x.size(8, 8);
        saying(x, rows("5", 8, 8)).lay(0);
        x.image(1);
        x.restore(0);
        duePicture("the least", x, "98/76", "kg/gk");
        x.restore(1);
        duePicture("the greatest", x, rows("5", 8, 8), rows(".", 8, 8));
        x.restore(0);
        duePicture("the least again", x, "98/76", "kg/gk");
        due("its seam", x.seam(0, -1), 10000 - 200 + (1 + 2) + (1 + 2));
    }

    private static void whatOfCount() {
        checks.about("Promise 21: WIDE (0), HIGH (1), .. (7); OUTSIDE");
        SeamPictures x = picture("152/739", "kkg/k..");
        x.rule(1);
        x.say('x');
        x.image(1);
        int[] want = {OUTSIDE, OUTSIDE, 3, 2, 27, 3, 1, 1, 1, 2, OUTSIDE, OUTSIDE};
        for (int what = -2; what <= 9; what++) {
            due("count(" + what + ")", x.count(what), want[what + 2]);
        }
        due("count(least)", x.count(LEAST), OUTSIDE);
        due("count(most)", x.count(MOST), OUTSIDE);
    }

    private static void countAtItsLimits() {
        checks.about("Promise 21: GREYS of all DOTS, added (2), DOTS that are KEPT (3), GOING (4): none, and all");
        SeamPictures x = blank(8, 8);
        for (int what = 2; what <= 4; what++) {
            due("count(" + what + ") of none", x.count(what), 0);
        }
        saying(x, rows("9", 8, 8)).lay(0);
        due("all GREYS 9", x.count(2), 576);
        saying(x, rows("k", 8, 8)).lay(1);
        due("all KEPT", x.count(3), 64);
        due("none GOING", x.count(4), 0);
        saying(x, rows("g", 8, 8)).lay(1);
        due("none KEPT", x.count(3), 0);
        due("all GOING", x.count(4), 64);
        checks.about("Promise 21: of all DOTS that there are: not of those that were CUT");
        x.cut(0);
        x.cut(1);
        due("GREYS", x.count(2), 9 * 49);
        due("GOING", x.count(4), 49);
        x.go(5, 0);
        due("GREYS of two by seven", x.count(2), 9 * 14);
        due("GOING of two by seven", x.count(4), 14);
        checks.about("Promise 21: signs of THE PAD (6): none, and 80");
        due("none", x.count(6), 0);
        for (int n = 1; n <= 81; n++) {
            x.say('~');
        }
        due("80", x.count(6), 80);
        checks.about("Promise 21: which IMAGES are kept, a set: bits 0, 1 (7)");
        due("none kept", x.count(7), 0);
        x.image(1);
        due("IMAGE 1", x.count(7), 2);
        x.image(1);
        due("IMAGE 1 twice", x.count(7), 2);
        x.image(0);
        due("both", x.count(7), 3);
        x = new SeamPictures();
        x.image(0);
        due("IMAGE 0", x.count(7), 1);
    }

    private static void constants() {
        checks.about("The constants: UNKNOWN = -1, OUTSIDE = -2, STATE = -3, FULL = -4, NO = -5, NONE = -6, FAULT = -7");
        due("UNKNOWN", SeamPictures.UNKNOWN, -1);
        due("OUTSIDE", SeamPictures.OUTSIDE, -2);
        due("STATE", SeamPictures.STATE, -3);
        due("FULL", SeamPictures.FULL, -4);
        due("NO", SeamPictures.NO, -5);
        due("NONE", SeamPictures.NONE, -6);
        due("FAULT", SeamPictures.FAULT, -7);
    }

    private static void lastCall() {
        checks.about("What it is: An object is used for at most 512 calls");
        SeamPictures x = new SeamPictures();
        due("size(8, 8)", x.size(8, 8), 44);
        due("rule(1)", x.rule(1), 0);
        for (int calls = 2; calls < 510; calls += 4) {
            due("say, after " + calls + " calls", x.say('0'), calls / 4 % 80 + 1);
            due("cut", x.cut(0), 10000);
            due("add", x.add(0), 10000);
            due("best or wipe", calls / 4 % 80 == 79 ? x.wipe() : x.best(3, 3, 1), calls / 4 % 80 == 79 ? 80 : 20);
        }
        due("call 511", x.best(3, 3, 0), 10000);
        due("call 512", x.count(0), 8);
    }
}
