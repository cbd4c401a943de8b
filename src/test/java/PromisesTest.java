/**
 * Each promise by examples: ordinary inputs, edges and wrong inputs. They are worked out by hand, but
 * for two pictures, 1313/1331/0103 and 851/367/274, that were searched for, with costs that
 * SlowPictures told.
 */
public final class PromisesTest extends Examples {
    /*
     * The picture most examples begin with, its weights by rule 0, and its gaps:
     *   1 5 2     10  3 10     to the left and right  4 1 3    above and below  6 2 7
     *   7 3 9      7  5 10                            4 2 6                     3 3 4
     *   4 8 6      7  7  5                            4 2 2                     3 5 3
     */
    private static final String NINE = "152/739/486";

    public static void main(String[] args) {
        promise1New();
        promise2Size();
        promise3Grey();
        promise4Mark();
        promise5Rule();
        promise6Dot();
        promise7Say();
        promise8Wipe();
        promise9Fault();
        promise10Lay();
        promise11Seam();
        promise11SeamAmongEquals();
        promise11SeamByRule1();
        promise12Cost();
        promise12CostIsRefused();
        promise13Cut();
        promise14Add();
        promise15Least();
        promise16Best();
        promise16BestAmongEquals();
        promise16BestIsRefused();
        promise17Table();
        promise17TableIsNotBest();
        promise17TableAmongEquals();
        promise17TableOfOblongs();
        promise17TableIsRefused();
        promise18Go();
        promise19Image();
        promise20Restore();
        promise21Count();
        checks.finish();
    }

    private static void promise1New() {
        SeamPictures x = new SeamPictures();
        int[] first = {4, 4, 0, 0, 0, 0, 0, 0};
        for (int what = 0; what < 8; what++) {
            due("new: count(" + what + ")", x.count(what), first[what]);
        }
        duePicture("new", x, "0000/0000/0000/0000", "..../..../..../....");
        due("new: restore(0)", x.restore(0), STATE);
        due("new: restore(1)", x.restore(1), STATE);
        due("new: fault(0)", x.fault(0), 0);
        due("new: wipe()", x.wipe(), 0);
    }

    private static void promise2Size() {
        SeamPictures x = picture("1234/5678/9012/3456", "k.g./...k/g.../.kkg");
        x.rule(1);
        x.say('7');
        x.image(1);
        due("size(2, 8)", x.size(2, 8), 44);
        duePicture("size(2, 8)", x, "00/00/00/00/00/00/00/00", "../../../../../../../..");
        due("size leaves the rule", x.count(5), 1);
        due("size leaves the pad", x.count(6), 1);
        due("size leaves the images", x.count(7), 2);
        due("size(8, 2)", x.size(8, 2), 28);
        due("size(8, 8)", x.size(8, 8), 82);
        due("nothing is left of greys", x.count(2), 0);
        due("nothing is left of kept", x.count(3), 0);
        due("nothing is left of going", x.count(4), 0);
        x.size(3, 5);
        int[][] wrong = {{1, 4}, {4, 1}, {9, 4}, {4, 9}, {0, 0}, {-4, 4}, {4, -4}};
        for (int[] w : wrong) {
            due("size(" + w[0] + ", " + w[1] + ")", x.size(w[0], w[1]), OUTSIDE);
        }
        for (int far : FAR) {
            due("size(" + far + ", 4)", x.size(far, 4), OUTSIDE);
            due("size(4, " + far + ")", x.size(4, far), OUTSIDE);
        }
        due("refused sizes change nothing", x.size(2, 2), 35);
    }

    private static void promise3Grey() {
        SeamPictures x = new SeamPictures();
        x.size(3, 2);
        due("grey(2, 1, 9)", x.grey(2, 1, 9), 0);
        due("grey(2, 1, 0)", x.grey(2, 1, 0), 9);
        due("grey(2, 0, 4)", x.grey(2, 0, 4), 0);
        due("grey(0, 1, 3)", x.grey(0, 1, 3), 0);
        due("grey(3, 0, 1)", x.grey(3, 0, 1), UNKNOWN);
        due("grey(0, 2, 1)", x.grey(0, 2, 1), UNKNOWN);
        due("grey(-1, 0, 1)", x.grey(-1, 0, 1), UNKNOWN);
        due("grey(0, -1, 1)", x.grey(0, -1, 1), UNKNOWN);
        due("grey(3, 0, 10): UNKNOWN is told first", x.grey(3, 0, 10), UNKNOWN);
        due("grey(0, 0, 10)", x.grey(0, 0, 10), OUTSIDE);
        due("grey(0, 0, -1)", x.grey(0, 0, -1), OUTSIDE);
        for (int far : FAR) {
            due("grey(" + far + ", 0, 0)", x.grey(far, 0, 0), UNKNOWN);
            due("grey(0, " + far + ", 0)", x.grey(0, far, 0), UNKNOWN);
            due("grey(0, 0, " + far + ")", x.grey(0, 0, far), OUTSIDE);
        }
        duePicture("grey", x, "004/300", ".../...");
    }

    private static void promise4Mark() {
        SeamPictures x = new SeamPictures();
        x.size(2, 3);
        due("mark(1, 2, 2)", x.mark(1, 2, 2), 0);
        due("mark(1, 2, 1)", x.mark(1, 2, 1), 2);
        due("mark(0, 1, 2)", x.mark(0, 1, 2), 0);
        due("mark(1, 0, 1)", x.mark(1, 0, 1), 0);
        due("mark(1, 0, 0)", x.mark(1, 0, 0), 1);
        due("mark(2, 0, 1)", x.mark(2, 0, 1), UNKNOWN);
        due("mark(0, 3, 1)", x.mark(0, 3, 1), UNKNOWN);
        due("mark(-1, 0, 1)", x.mark(-1, 0, 1), UNKNOWN);
        due("mark(0, -1, 1)", x.mark(0, -1, 1), UNKNOWN);
        due("mark(0, 3, 3): UNKNOWN is told first", x.mark(0, 3, 3), UNKNOWN);
        due("mark(0, 0, 3)", x.mark(0, 0, 3), OUTSIDE);
        due("mark(0, 0, -1)", x.mark(0, 0, -1), OUTSIDE);
        for (int far : FAR) {
            due("mark(" + far + ", 0, 0)", x.mark(far, 0, 0), UNKNOWN);
            due("mark(0, " + far + ", 0)", x.mark(0, far, 0), UNKNOWN);
            due("mark(0, 0, " + far + ")", x.mark(0, 0, far), OUTSIDE);
        }
        duePicture("mark", x, "00/00/00", "../g./.k");
    }

    private static void promise5Rule() {
        SeamPictures x = new SeamPictures();
        due("rule(1)", x.rule(1), 0);
        due("rule(2)", x.rule(2), OUTSIDE);
        due("rule(-1)", x.rule(-1), OUTSIDE);
        for (int far : FAR) {
            due("rule(" + far + ")", x.rule(far), OUTSIDE);
        }
        due("rule(1) again", x.rule(1), 1);
        due("rule(0)", x.rule(0), 1);
        due("the rule", x.count(5), 0);
    }

    private static void promise6Dot() {
        SeamPictures x = picture(NINE, "k../.g./...");
        int[][] edges = {{10, 3, 10}, {7, 5, 10}, {7, 7, 5}};
        for (int rule = 0; rule < 2; rule++) {
            // An edge and a weight are the same by both rules.
            x.rule(rule);
            for (int y = 0; y < 3; y++) {
                for (int i = 0; i < 3; i++) {
                    int extra = i == 0 && y == 0 ? 100 : i == 1 && y == 1 ? -100 : 0;
                    due("dot(" + i + ", " + y + ", 2)", x.dot(i, y, 2), edges[y][i]);
                    due("dot(" + i + ", " + y + ", 3)", x.dot(i, y, 3), 1000 + edges[y][i] + extra);
                }
            }
        }
        duePicture("dot", x, NINE, "k../.g./...");
        due("dot(3, 0, 0)", x.dot(3, 0, 0), UNKNOWN);
        due("dot(0, 3, 0)", x.dot(0, 3, 0), UNKNOWN);
        due("dot(-1, 0, 9): UNKNOWN is told first", x.dot(-1, 0, 9), UNKNOWN);
        due("dot(0, 0, 4)", x.dot(0, 0, 4), OUTSIDE);
        due("dot(0, 0, -1)", x.dot(0, 0, -1), OUTSIDE);
        for (int far : FAR) {
            due("dot(" + far + ", 0, 0)", x.dot(far, 0, 0), UNKNOWN);
            due("dot(0, " + far + ", 0)", x.dot(0, far, 0), UNKNOWN);
            due("dot(0, 0, " + far + ")", x.dot(0, 0, far), OUTSIDE);
        }
    }

    private static void promise7Say() {
        SeamPictures x = new SeamPictures();
        due("say(33)", x.say(33), 1);
        due("say(126)", x.say(126), 2);
        due("say(32)", x.say(32), OUTSIDE);
        due("say(127)", x.say(127), OUTSIDE);
        for (int far : FAR) {
            due("say(" + far + ")", x.say(far), OUTSIDE);
        }
        for (int n = 3; n <= 80; n++) {
            due("say, sign " + n, x.say(48), n);
        }
        due("say on a full pad", x.say(48), FULL);
        due("say(32) on a full pad: OUTSIDE is told first", x.say(32), OUTSIDE);
        due("a full pad", x.count(6), 80);
    }

    private static void promise8Wipe() {
        SeamPictures x = picture(NINE, "");
        saying(x, "152/739");
        due("wipe()", x.wipe(), 7);
        due("wipe() again", x.wipe(), 0);
        due("signs after wipe", x.count(6), 0);
        due("say after wipe", x.say('1'), 1);
        for (int i = 0; i < 90; i++) {
            x.say('1');
        }
        due("wipe() of a full pad", x.wipe(), 80);
        duePicture("wipe", x, NINE, ".../.../...");
    }

    private static void dueFault(String signs, int asGreys, int asMarks) {
        SeamPictures x = new SeamPictures();
        x.size(3, 2);
        saying(x, signs);
        due("fault(0) of " + signs, x.fault(0), asGreys);
        due("fault(1) of " + signs, x.fault(1), asMarks);
        due("fault leaves the pad", x.count(6), signs.length());
    }

    private static void promise9Fault() {
        dueFault("", 0, 0);
        dueFault("1", 1, 0);
        dueFault("190", 3, 0);
        dueFault("190/", 4, 0);
        dueFault("1904", 3, 0);
        dueFault("19/4", 2, 0);
        dueFault("/", 0, 0);
        dueFault("190/45", 6, 0);
        dueFault("190/456", NONE, 0);
        dueFault("190/456/", 7, 0);
        dueFault("190/4567", 7, 0);
        dueFault("190/45k", 6, 0);
        dueFault(".kg", 0, 3);
        dueFault(".kg/gk", 0, 6);
        dueFault(".kg/gk.", 0, NONE);
        dueFault(".kg/gk.k", 0, 7);
        dueFault(".kg/gk0", 0, 6);
        dueFault(".kg.gk.", 0, 3);
        dueFault(".Kg/gk.", 0, 1);
        dueFault("1:0/456", 1, 0);
        dueFault("..//gk.", 0, 2);
        SeamPictures x = new SeamPictures();
        x.size(8, 8);
        saying(x, "12345678/12345678/12345678/12345678/12345678/12345678/12345678/12345678");
        due("fault(0) of eight by eight", x.fault(0), NONE);
        x.size(8, 7);
        due("fault(0), as the picture is then", x.fault(0), 62);
        x.size(7, 8);
        due("fault(0), as the picture is then", x.fault(0), 7);
        due("fault(2)", x.fault(2), OUTSIDE);
        due("fault(-1)", x.fault(-1), OUTSIDE);
        for (int far : FAR) {
            due("fault(" + far + ")", x.fault(far), OUTSIDE);
        }
    }

    private static void promise10Lay() {
        SeamPictures x = new SeamPictures();
        x.size(3, 2);
        due("lay(0) of greys", saying(x, "190/406").lay(0), 4);
        due("lay empties the pad", x.count(6), 0);
        due("lay(0) of the same", saying(x, "190/406").lay(0), 0);
        due("lay(0) of others", saying(x, "290/405").lay(0), 2);
        due("lay(1) of marks", saying(x, ".kg/gk.").lay(1), 4);
        duePicture("lay", x, "290/405", ".kg/gk.");
        due("lay(1) of other marks", saying(x, "kkk/...").lay(1), 4);
        duePicture("lay", x, "290/405", "kkk/...");
        due("lay(0) of nothing", x.lay(0), FAULT);
        saying(x, "111/11");
        due("lay(0) of too few", x.lay(0), FAULT);
        due("lay(1) of greys", x.lay(1), FAULT);
        due("lay(2) with a fault: OUTSIDE is told first", x.lay(2), OUTSIDE);
        due("lay(-1)", x.lay(-1), OUTSIDE);
        for (int far : FAR) {
            due("lay(" + far + ")", x.lay(far), OUTSIDE);
        }
        due("refused lays leave the pad", x.count(6), 6);
        saying(x, "11");
        due("lay(0) of too many", x.lay(0), FAULT);
        duePicture("refused lays", x, "290/405", "kkk/...");
    }

    private static void promise11Seam() {
        SeamPictures x = picture(NINE, "");
        dueSeam("nine", x, 0, 13, 1, 1, 2);
        dueSeam("nine", x, 1, 17, 1, 1, 2);
        x.mark(1, 1, 1);
        dueSeam("nine, the middle kept", x, 0, 17, 1, 0, 0);
        x.mark(1, 1, 0);
        x.mark(0, 2, 2);
        dueSeam("nine, a corner going", x, 0, -85, 1, 1, 0);
        dueSeam("nine, a corner going", x, 1, -83, 2, 1, 2);
        duePicture("seam", x, NINE, ".../.../g..");
        due("seam(2, 0)", x.seam(2, 0), OUTSIDE);
        due("seam(-1, 0)", x.seam(-1, 0), OUTSIDE);
        due("seam(0, -2)", x.seam(0, -2), OUTSIDE);
        due("seam(1, -2)", x.seam(1, -2), OUTSIDE);
        due("seam(2, 9): OUTSIDE, not NONE", x.seam(2, 9), OUTSIDE);
        due("seam(0, 3)", x.seam(0, 3), NONE);
        due("seam(0, most)", x.seam(0, Integer.MAX_VALUE), NONE);
        due("seam(0, least)", x.seam(0, Integer.MIN_VALUE), OUTSIDE);
        for (int far : FAR) {
            due("seam(" + far + ", 0)", x.seam(far, 0), OUTSIDE);
        }
        SeamPictures oblong = picture("00000/00000/00000", "");
        dueSeam("five by three", oblong, 0, 0, 0, 0, 0);
        dueSeam("five by three", oblong, 1, 0, 0, 0, 0, 0, 0);
    }

    /** At the first row in which equal seams differ the lesser x wins, whatever comes further on. */
    private static void promise11SeamAmongEquals() {
        SeamPictures x = picture("000/000/000", ".gg/.../g.g");
        dueSeam("equals", x, 0, -200, 1, 0, 0);
        dueSeam("equals", x, 1, -200, 0, 0, 0);
        x = picture("000/000/000", "k../k../..g");
        dueSeam("equals, none at the left", x, 0, -100, 1, 1, 2);
        x = picture("0000/0000/0000", "kk.k/..../g.gk");
        dueSeam("one start, several ways on", x, 0, -100, 2, 1, 0);
    }

    private static void promise11SeamByRule1() {
        SeamPictures x = picture(NINE, "");
        x.rule(1);
        dueSeam("nine by rule 1", x, 0, 5, 1, 1, 1);
        dueSeam("nine by rule 1", x, 1, 10, 1, 1, 1);
        x.mark(1, 1, 1);
        dueSeam("nine by rule 1, the middle kept", x, 0, 10, 1, 0, 1);
        x.mark(1, 1, 2);
        dueSeam("nine by rule 1, the middle going", x, 0, -95, 1, 1, 1);
    }

    private static void promise12Cost() {
        SeamPictures x = picture(NINE, "");
        due("cost(0, 112)", x.cost(0, 112), 10013);
        due("cost(0, 12)", x.cost(0, 12), 10020);
        due("cost(0, 0)", x.cost(0, 0), 10024);
        due("cost(0, 1)", x.cost(0, 1), 10024);
        due("cost(0, 222)", x.cost(0, 222), 10025);
        due("cost(1, 112)", x.cost(1, 112), 10017);
        due("cost(1, 10)", x.cost(1, 10), 10025);
        x.rule(1);
        due("rule 1: cost(0, 111)", x.cost(0, 111), 10005);
        due("rule 1: cost(0, 112)", x.cost(0, 112), 10006);
        due("rule 1: cost(0, 12)", x.cost(0, 12), 10011);
        due("rule 1: cost(0, 210)", x.cost(0, 210), 10014);
        due("rule 1: cost(1, 112)", x.cost(1, 112), 10010);
        due("rule 1: cost(1, 101)", x.cost(1, 101), 10012);
        due("rule 1: cost(1, 211)", x.cost(1, 211), 10011);
        x.mark(1, 0, 2);
        due("rule 1: cost(0, 111) of a going dot", x.cost(0, 111), 9905);
        x.mark(1, 0, 1);
        due("rule 1: cost(0, 111) of a kept dot", x.cost(0, 111), 10105);
        x.size(8, 2);
        due("cost(1, 0)", x.cost(1, 0), 10000);
        due("cost(1, 11111111)", x.cost(1, 11111111), 10000);
        due("cost(1, 10101010)", x.cost(1, 10101010), 10000);
        due("cost(0, 77)", x.cost(0, 77), 10000);
        due("cost(0, 76)", x.cost(0, 76), 10000);
    }

    private static void promise12CostIsRefused() {
        SeamPictures x = picture(NINE, "");
        due("cost(0, 20)", x.cost(0, 20), NO);
        due("cost(0, 2)", x.cost(0, 2), NO);
        due("cost(0, 200)", x.cost(0, 200), NO);
        due("cost(0, 220)", x.cost(0, 220), NO);
        due("cost(1, 200)", x.cost(1, 200), NO);
        due("cost(0, 133)", x.cost(0, 133), NO);
        due("cost(0, 223)", x.cost(0, 223), NO);
        due("cost(0, 322)", x.cost(0, 322), NO);
        due("cost(0, 1000)", x.cost(0, 1000), NO);
        due("cost(0, 1111)", x.cost(0, 1111), NO);
        due("cost(1, 1111)", x.cost(1, 1111), NO);
        due("cost(1, most)", x.cost(1, Integer.MAX_VALUE), NO);
        due("cost(0, -1)", x.cost(0, -1), OUTSIDE);
        due("cost(0, least)", x.cost(0, Integer.MIN_VALUE), OUTSIDE);
        due("cost(2, 111)", x.cost(2, 111), OUTSIDE);
        due("cost(-1, 111)", x.cost(-1, 111), OUTSIDE);
        due("cost(2, 999): OUTSIDE is told first", x.cost(2, 999), OUTSIDE);
        for (int far : FAR) {
            due("cost(" + far + ", 0)", x.cost(far, 0), OUTSIDE);
        }
        x.size(8, 2);
        due("cost(1, 22222222)", x.cost(1, 22222222), NO);
        due("cost(1, 111111111)", x.cost(1, 111111111), NO);
        due("cost(0, 8)", x.cost(0, 8), NO);
        due("cost(0, 111)", x.cost(0, 111), NO);
    }

    private static void promise13Cut() {
        SeamPictures x = picture(NINE, "k.k/..k/k..");
        due("cut(0)", x.cut(0), 10013);
        duePicture("cut(0)", x, "12/79/48", "kk/.k/k.");
        due("cut(0) of two", x.cut(0), STATE);
        due("cut(2)", x.cut(2), OUTSIDE);
        due("cut(-1)", x.cut(-1), OUTSIDE);
        for (int far : FAR) {
            due("cut(" + far + ")", x.cut(far), OUTSIDE);
        }
        duePicture("refused cuts", x, "12/79/48", "kk/.k/k.");
        x = picture(NINE, "k../..k/k..");
        due("cut(1)", x.cut(1), 10017);
        duePicture("cut(1)", x, "152/489", "k../k.k");
        due("cut(1) of two", x.cut(1), STATE);
        x = picture(NINE, "");
        x.rule(1);
        due("cut(0) by rule 1", x.cut(0), 10005);
        duePicture("cut(0) by rule 1", x, "12/79/46", "../../..");
    }

    private static void promise14Add() {
        SeamPictures x = picture(NINE, "");
        x.mark(2, 0, 1);
        due("add(0)", x.add(0), 10013);
        duePicture("add(0)", x, "1532/7369/4866", "...k/..../....");
        x = picture(NINE, "");
        x.mark(0, 2, 1);
        due("add(1)", x.add(1), 10017);
        duePicture("add(1)", x, "152/739/556/486", ".../.../.../k..");
        x = picture("09/09", ".g/.g");
        due("add(0) at the right", x.add(0), 10000 - 182);
        duePicture("add(0): a new dot has no mark", x, "099/099", ".g./.g.");
        x = picture("0489/0389", "g.../g...");
        due("add(0) at the left", x.add(0), 10000 - 193);
        duePicture("add(0) at the left", x, "02489/01389", "g..../g....");
        x.size(7, 8);
        due("add(1) of eight", x.add(1), STATE);
        due("add(0) of seven", x.add(0), 10000);
        due("add(0) of eight", x.add(0), STATE);
        due("WIDE", x.count(0), 8);
        due("HIGH", x.count(1), 8);
        due("add(2)", x.add(2), OUTSIDE);
        due("add(-1)", x.add(-1), OUTSIDE);
        for (int far : FAR) {
            due("add(" + far + ")", x.add(far), OUTSIDE);
        }
    }

    private static void promise15Least() {
        SeamPictures x = picture(NINE, "");
        int[] ofRows = {1, 1, 2};
        int[] ofColumns = {1, 0, 2};
        for (int i = 0; i < 3; i++) {
            due("least(0, " + i + ")", x.least(0, i), ofRows[i]);
            due("least(1, " + i + ")", x.least(1, i), ofColumns[i]);
        }
        x.mark(1, 0, 1);
        x.mark(2, 1, 2);
        due("least(0, 0), all others equal", x.least(0, 0), 0);
        due("least(0, 1) of a going dot", x.least(0, 1), 2);
        due("least(1, 2) of a going dot", x.least(1, 2), 1);
        due("least(1, 1) without a kept dot", x.least(1, 1), 1);
        SeamPictures oblong = picture("00000/00000", "kkkkg/kkk.k");
        due("least(0, 0) of an oblong", oblong.least(0, 0), 4);
        due("least(0, 1) of an oblong", oblong.least(0, 1), 3);
        oblong = picture("00/00/00/00/00", "kk/kk/kk/k./gk");
        due("least(1, 0) of an oblong", oblong.least(1, 0), 4);
        due("least(1, 1) of an oblong", oblong.least(1, 1), 3);
        x.size(3, 5);
        due("least(0, 4)", x.least(0, 4), 0);
        due("least(0, 5)", x.least(0, 5), UNKNOWN);
        due("least(1, 2)", x.least(1, 2), 0);
        due("least(1, 3)", x.least(1, 3), UNKNOWN);
        due("least(0, -1)", x.least(0, -1), UNKNOWN);
        due("least(1, -1)", x.least(1, -1), UNKNOWN);
        due("least(2, 0)", x.least(2, 0), OUTSIDE);
        due("least(-1, 0)", x.least(-1, 0), OUTSIDE);
        due("least(2, 9): OUTSIDE is told first here", x.least(2, 9), OUTSIDE);
        for (int far : FAR) {
            due("least(" + far + ", 0)", x.least(far, 0), OUTSIDE);
            due("least(0, " + far + ")", x.least(0, far), UNKNOWN);
            due("least(1, " + far + ")", x.least(1, far), UNKNOWN);
        }
    }

    private static void dueBest(SeamPictures x, int a, int b, int... want) {
        for (int what = 0; what < 4; what++) {
            due("best(" + a + ", " + b + ", " + what + ")", x.best(a, b, what), want[what]);
        }
    }

    private static void promise16Best() {
        SeamPictures x = picture(NINE, "");
        dueBest(x, 0, 0, 10000, 1, 0, 0);
        dueBest(x, 1, 0, 10013, 1, 0, 0);
        dueBest(x, 0, 1, 10017, 1, 1, 0);
        // First upright: 13, then 10; first lying: 17, then 11.
        dueBest(x, 1, 1, 10023, 1, 2, 0);
        duePicture("best", x, NINE, ".../.../...");
        // The same picture mirrored along its diagonal: now the lying one goes first.
        SeamPictures mirrored = picture("174/538/296", "");
        dueBest(mirrored, 1, 1, 10023, 1, 1, 0);
    }

    private static void promise16BestAmongEquals() {
        SeamPictures x = new SeamPictures();
        x.size(5, 5);
        dueBest(x, 3, 3, 10000, 20, 0x38, 0);
        dueBest(x, 2, 1, 10000, 3, 4, 0);
        x = picture("000/000/000", "kkk/kkk/kkk");
        dueBest(x, 1, 0, 10300, 1, 0, 3);
        dueBest(x, 0, 1, 10300, 1, 1, 3);
        dueBest(x, 1, 1, 10500, 2, 2, 5);
        // Going dots are not counted as kept ones.
        x = picture("000/000/000", "ggk/ggk/kkk");
        dueBest(x, 1, 1, 10000 - 100, 2, 2, 2);
    }

    private static void promise16BestIsRefused() {
        SeamPictures x = new SeamPictures();
        x.size(5, 8);
        int[][] wrong = {{4, 0}, {0, 7}, {1, 6}, {3, 4}, {2, 5}, {-1, 0}, {0, -1}, {-1, 7}, {4, -1}};
        for (int[] w : wrong) {
            String of = "(" + w[0] + ", " + w[1] + ")";
            due("best" + of, x.best(w[0], w[1], 0), OUTSIDE);
            due("table" + of, x.table(w[0], w[1], 0), OUTSIDE);
            due("go" + of, x.go(w[0], w[1]), OUTSIDE);
        }
        for (int far : FAR) {
            due("best(" + far + ", 0, 0)", x.best(far, 0, 0), OUTSIDE);
            due("best(0, " + far + ", 0)", x.best(0, far, 0), OUTSIDE);
            due("best(" + far + ", " + far + ", 0)", x.best(far, far, 0), OUTSIDE);
            due("best(0, 0, " + far + ")", x.best(0, 0, far), OUTSIDE);
        }
        due("best(0, 0, 4)", x.best(0, 0, 4), OUTSIDE);
        due("best(0, 0, -1)", x.best(0, 0, -1), OUTSIDE);
        due("best(3, 3, 1)", x.best(3, 3, 1), 20);
        due("best(0, 6, 1)", x.best(0, 6, 1), 1);
        x.size(2, 2);
        due("best(0, 0, 1) of two by two", x.best(0, 0, 1), 1);
        due("best(1, 0, 0) of two by two", x.best(1, 0, 0), OUTSIDE);
        due("best(0, 1, 0) of two by two", x.best(0, 1, 0), OUTSIDE);
    }

    private static void dueTable(SeamPictures x, int a, int b, int cost, String greys) {
        String of = "table(" + a + ", " + b + ", ";
        due(of + "0)", x.table(a, b, 0), cost);
        String[] row = greys.split("/");
        for (int what = 10; what < 90; what++) {
            int i = what / 10 - 1;
            int y = what % 10;
            boolean there = y < row.length && i < row[y].length();
            due(of + what + ")", x.table(a, b, what), there ? row[y].charAt(i) - '0' : NONE);
        }
    }

    private static void promise17Table() {
        SeamPictures x = picture(NINE, "");
        dueTable(x, 0, 0, 10000, NINE);
        dueTable(x, 1, 0, 10013, "12/79/48");
        dueTable(x, 0, 1, 10017, "152/489");
        dueTable(x, 1, 1, 10023, "12/49");
        duePicture("table", x, NINE, ".../.../...");
        SeamPictures mirrored = picture("174/538/296", "");
        dueTable(mirrored, 1, 1, 10023, "14/29");
    }

    /**
     * Costs by order: ul 5 5, lu 6 3, uul 5 5 5, ulu 5 5 1, luu 6 3 5. So the table has lu at (1, 1),
     * goes on from there, and misses ulu.
     */
    private static void promise17TableIsNotBest() {
        SeamPictures x = picture("1313/1331/0103", "");
        dueBest(x, 1, 1, 10009, 1, 1, 0);
        dueBest(x, 2, 1, 10011, 1, 2, 0);
        dueTable(x, 1, 1, 10009, "133/010");
        dueTable(x, 2, 0, 10010, "13/31/03");
        dueTable(x, 2, 1, 10014, "33/10");
        due("go(2, 1)", x.go(2, 1), 10011);
        duePicture("go(2, 1)", x, "13/03", "../..");
    }

    /**
     * Upright first costs 15 and 7, lying first 13 and 9, and other dots are left then. Among equals
     * BEST has the upright seam first, the table has it last: it takes (0, 1) ahead of (1, 0).
     */
    private static void promise17TableAmongEquals() {
        SeamPictures x = picture("851/367/274", "");
        dueBest(x, 1, 1, 10022, 2, 2, 0);
        dueTable(x, 1, 1, 10022, "85/34");
        due("go(1, 1) among equals", x.go(1, 1), 10022);
        duePicture("go(1, 1) among equals", x, "81/36", "../..");
    }

    private static void promise17TableOfOblongs() {
        SeamPictures x = picture("01234567/00000000", "");
        dueTable(x, 0, 0, 10000, "01234567/00000000");
        x = picture("00/11/22/33/44/55/66/77", "../gg/gg/gg/gg/gg/gg/..");
        // With one way alone the table has no choice, so it is BEST.
        dueTable(x, 0, 6, x.best(0, 6, 0), "00/77");
    }

    private static void promise17TableIsRefused() {
        SeamPictures x = picture(NINE, "");
        int[] wrong = {-1, 1, 9, 90, 100};
        for (int what : wrong) {
            due("table(0, 0, " + what + ")", x.table(0, 0, what), OUTSIDE);
        }
        for (int far : FAR) {
            due("table(" + far + ", 0, 0)", x.table(far, 0, 0), OUTSIDE);
            due("table(0, " + far + ", 0)", x.table(0, far, 0), OUTSIDE);
            due("table(" + far + ", " + far + ", 0)", x.table(far, far, 0), OUTSIDE);
            due("table(0, 0, " + far + ")", x.table(0, 0, far), OUTSIDE);
        }
        due("table(2, 0, 89): OUTSIDE, not NONE", x.table(2, 0, 89), OUTSIDE);
        due("table(0, 2, 89): OUTSIDE, not NONE", x.table(0, 2, 89), OUTSIDE);
    }

    private static void promise18Go() {
        SeamPictures x = picture(NINE, "");
        due("go(0, 0)", x.go(0, 0), 10000);
        duePicture("go(0, 0)", x, NINE, ".../.../...");
        x.mark(2, 1, 1);
        due("go(1, 1)", x.go(1, 1), 10023);
        duePicture("go(1, 1)", x, "12/49", "../.k");
        due("go(1, 0) of two by two", x.go(1, 0), OUTSIDE);
        due("go(0, 1) of two by two", x.go(0, 1), OUTSIDE);
        for (int far : FAR) {
            due("go(" + far + ", 0)", x.go(far, 0), OUTSIDE);
            due("go(0, " + far + ")", x.go(0, far), OUTSIDE);
            due("go(" + far + ", " + far + ")", x.go(far, far), OUTSIDE);
        }
        duePicture("refused go", x, "12/49", "../.k");
        x = picture("174/538/296", "");
        due("go(1, 1), the lying one first", x.go(1, 1), 10023);
        duePicture("go(1, 1), the lying one first", x, "14/29", "../..");
        x.size(8, 8);
        due("go(3, 3)", x.go(3, 3), 10000);
        due("WIDE", x.count(0), 5);
        due("HIGH", x.count(1), 5);
    }

    private static void promise19Image() {
        SeamPictures x = picture(NINE, "k../.g./...");
        saying(x, "12");
        due("image(1)", x.image(1), 1);
        due("images kept", x.count(7), 2);
        due("image leaves the pad", x.count(6), 2);
        duePicture("image", x, NINE, "k../.g./...");
        x.size(2, 2);
        due("image(0)", x.image(0), 1);
        due("images kept", x.count(7), 3);
        x.size(5, 6);
        due("image(1) again", x.image(1), 1);
        due("restore(1)", x.restore(1), 1);
        due("the later image is kept", x.size(4, 4), 56);
        due("restore(0)", x.restore(0), 1);
        due("the other is as it was", x.size(4, 4), 22);
        due("image(2)", x.image(2), OUTSIDE);
        due("image(-1)", x.image(-1), OUTSIDE);
        for (int far : FAR) {
            due("image(" + far + ")", x.image(far), OUTSIDE);
        }
    }

    private static void promise20Restore() {
        SeamPictures x = picture(NINE, "k../.g./...");
        x.rule(1);
        x.image(0);
        due("restore(1), none kept", x.restore(1), STATE);
        x.rule(0);
        x.cut(0);
        x.cut(1);
        x.grey(0, 0, 8);
        saying(x, "123");
        due("restore(0)", x.restore(0), 1);
        duePicture("restore", x, NINE, "k../.g./...");
        due("restore: the rule", x.count(5), 1);
        due("restore leaves the pad", x.count(6), 3);
        due("restore leaves the images", x.count(7), 1);
        x.size(8, 8);
        due("restore(0) again", x.restore(0), 1);
        duePicture("restore again", x, NINE, "k../.g./...");
        x.mark(2, 2, 1);
        x.grey(2, 2, 0);
        x.restore(0);
        duePicture("changes do not reach the image", x, NINE, "k../.g./...");
        due("restore(2)", x.restore(2), OUTSIDE);
        due("restore(-1)", x.restore(-1), OUTSIDE);
        for (int far : FAR) {
            due("restore(" + far + ")", x.restore(far), OUTSIDE);
        }
    }

    private static void promise21Count() {
        SeamPictures x = picture("1520/7390/4869", "kkk./g..g/...k");
        x.rule(1);
        saying(x, "12345");
        x.image(0);
        int[] want = {4, 3, 54, 4, 2, 1, 5, 1};
        for (int what = 0; what < 8; what++) {
            due("count(" + what + ")", x.count(what), want[what]);
        }
        due("count(8)", x.count(8), OUTSIDE);
        due("count(-1)", x.count(-1), OUTSIDE);
        for (int far : FAR) {
            due("count(" + far + ")", x.count(far), OUTSIDE);
        }
        x.rule(0);
        x.cut(0);
        x.cut(1);
        due("WIDE after a cut", x.count(0), 3);
        due("HIGH after a cut", x.count(1), 2);
        x = picture("00/00/12/34", "../../.k/gk");
        due("greys of the lower rows", x.count(2), 10);
        due("kept dots of the lower rows", x.count(3), 2);
        due("going dots of the lower rows", x.count(4), 1);
    }
}
