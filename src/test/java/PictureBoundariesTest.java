/**
 * The boundary cases of 'Terms' 1 and 4 and of promises 1 to 10, sentence by sentence: the last input
 * that is taken and the first that is refused. RefusalsTest has the order of refusals and what a
 * refused call leaves as it was.
 */
public final class PictureBoundariesTest extends Examples {
    private static final String GREY_SIGNS = "0123456789";
    private static final String MARK_SIGNS = ".kg";

    public static void main(String[] args) {
        sizesOfPictures();
        dotsOfPictures();
        dotsAfterTheSizeChanged();
        greysMarksAndRule();
        neighboursAtTheEdges();
        noNeighbourOutOfThePicture();
        extrasAndWeights();
        whatOfDot();
        newObject();
        sizeBlanks();
        signsOfThePad();
        roomOfThePad();
        wipeOfThePad();
        faultOfEachLength();
        faultOfEachSign();
        faultAsThePictureIs();
        layTakesAndRefuses();
        layTellsHowManyChanged();
        checks.finish();
    }

    // ---- Terms 1, promises 1 to 6

    private static void sizesOfPictures() {
        checks.about("Terms 1: A PICTURE is WIDE (2 to 8) and HIGH (2 to 8; 4 and 4 at first); promise 2: OUTSIDE: both");
        for (int wide = 0; wide <= 10; wide++) {
            for (int high = 0; high <= 10; high++) {
                SeamPictures x = new SeamPictures();
                boolean taken = wide >= 2 && wide <= 8 && high >= 2 && high <= 8;
                String call = "size(" + wide + ", " + high + ")";
                due(call, x.size(wide, high), taken ? 44 : OUTSIDE);
                dueSize(call, x, taken ? wide : 4, taken ? high : 4);
            }
        }
        for (int far : new int[] {LEAST, LEAST + 4, -4, -1, 16, 260, 65540, MOST}) {
            due("size(" + far + ", 4)", new SeamPictures().size(far, 4), OUTSIDE);
            due("size(4, " + far + ")", new SeamPictures().size(4, far), OUTSIDE);
        }
    }

    private static void dotsOfPictures() {
        checks.about("Terms 1: DOTS are told by x, 0 to WIDE less 1, and y, 0 to HIGH less 1; promises 3, 4, 6: UNKNOWN");
        for (int wide = 2; wide <= 8; wide++) {
            for (int high = 2; high <= 8; high++) {
                dueDotsThere("of " + wide + " by " + high, blank(wide, high), wide, high);
            }
        }
        for (int far : new int[] {LEAST, LEAST + 1, -8, 8, 256, MOST - 1, MOST}) {
            SeamPictures x = blank(8, 8);
            due("grey(" + far + ", 0, 0)", x.grey(far, 0, 0), UNKNOWN);
            due("grey(0, " + far + ", 0)", x.grey(0, far, 0), UNKNOWN);
            due("mark(" + far + ", 0, 0)", x.mark(far, 0, 0), UNKNOWN);
            due("mark(0, " + far + ", 0)", x.mark(0, far, 0), UNKNOWN);
            due("dot(" + far + ", 0, 0)", x.dot(far, 0, 0), UNKNOWN);
            due("dot(0, " + far + ", 0)", x.dot(0, far, 0), UNKNOWN);
        }
    }

    /** At most 300 calls; all greys and marks must be 0. */
    private static void dueDotsThere(String of, SeamPictures x, int wide, int high) {
        for (int i = -1; i <= wide; i++) {
            for (int y = -1; y <= high; y++) {
                boolean there = i >= 0 && i < wide && y >= 0 && y < high;
                int want = there ? 0 : UNKNOWN;
                String at = "(" + i + ", " + y + ", 0) " + of;
                due("grey" + at, x.grey(i, y, 0), want);
                due("mark" + at, x.mark(i, y, 0), want);
                due("dot" + at, x.dot(i, y, 0), want);
            }
        }
    }

    private static void dotsAfterTheSizeChanged() {
        checks.about("Terms: All that is told is as things are when it is asked: which DOTS there are");
        SeamPictures x = blank(5, 4);
        x.cut(0);
        dueDotsThere("after cut(0)", x, 4, 4);
        x = blank(5, 4);
        x.cut(1);
        dueDotsThere("after cut(1)", x, 5, 3);
        x = blank(5, 4);
        x.add(0);
        dueDotsThere("after add(0)", x, 6, 4);
        x = blank(5, 4);
        x.add(1);
        dueDotsThere("after add(1)", x, 5, 5);
        x = blank(5, 4);
        x.go(3, 1);
        dueDotsThere("after go(3, 1)", x, 2, 3);
        x = blank(5, 4);
        x.image(0);
        x.size(2, 8);
        x.restore(0);
        dueDotsThere("after restore(0)", x, 5, 4);
    }

    private static void greysMarksAndRule() {
        checks.about("Terms 1: Each has a GREY, 0 to 9; promise 3: which it was; OUTSIDE");
        SeamPictures x = blank(3, 2);
        int was = 0;
        for (int v = -2; v <= 12; v++) {
            boolean taken = v >= 0 && v <= 9;
            due("grey(2, 1, " + v + ")", x.grey(2, 1, v), taken ? was : OUTSIDE);
            was = taken ? v : was;
            due("GREY after " + v, x.dot(2, 1, 0), was);
        }
        due("grey(2, 1, 0)", x.grey(2, 1, 0), 9);
        due("grey(2, 1, least)", x.grey(2, 1, LEAST), OUTSIDE);
        due("grey(2, 1, most)", x.grey(2, 1, MOST), OUTSIDE);

        checks.about("Terms 1: and a MARK: 0 none, 1 KEPT, 2 GOING; promise 4: which it was; OUTSIDE");
        was = 0;
        for (int v = -2; v <= 5; v++) {
            boolean taken = v >= 0 && v <= 2;
            due("mark(2, 1, " + v + ")", x.mark(2, 1, v), taken ? was : OUTSIDE);
            was = taken ? v : was;
            due("MARK after " + v, x.dot(2, 1, 1), was);
        }
        due("mark(2, 1, 0)", x.mark(2, 1, 0), 2);
        due("mark(2, 1, least)", x.mark(2, 1, LEAST), OUTSIDE);
        due("mark(2, 1, most)", x.mark(2, 1, MOST), OUTSIDE);

        checks.about("Terms 1: THE RULE is 0 (at first) or 1; promise 5: which it was; OUTSIDE");
        was = 0;
        for (int v : new int[] {-1, 0, 2, 1, -1, 2, 3, LEAST, MOST, 1, 0, 0}) {
            boolean taken = v == 0 || v == 1;
            due("rule(" + v + ")", x.rule(v), taken ? was : OUTSIDE);
            was = taken ? v : was;
            due("THE RULE after " + v, x.count(5), was);
        }
    }

    private static void dueEdges(String of, SeamPictures x, int[][] edges) {
        for (int y = 0; y < edges.length; y++) {
            for (int i = 0; i < edges[y].length; i++) {
                due("EDGE at (" + i + ", " + y + ") of " + of, x.dot(i, y, 2), edges[y][i]);
            }
        }
    }

    private static void neighboursAtTheEdges() {
        checks.about("Terms 1: A DOT's neighbour .. is the DOT itself, where there is no other one");
        dueEdges("two by two", picture("18/36", ""), new int[][] {{7 + 2, 7 + 2}, {3 + 2, 3 + 2}});
        dueEdges("eight by two", picture("10000007/20000005", ""), new int[][] {
            {1 + 1, 1, 0, 0, 0, 0, 7, 7 + 2}, {2 + 1, 2, 0, 0, 0, 0, 5, 5 + 2}});
        dueEdges("two by eight", picture("12/00/00/00/00/00/00/75", ""), new int[][] {
            {1 + 1, 1 + 2}, {1, 2}, {0, 0}, {0, 0}, {0, 0}, {0, 0}, {7, 5}, {2 + 7, 2 + 5}});
        SeamPictures x = picture(rows("4", 8, 8), "");
        x.grey(0, 0, 9);
        x.grey(7, 0, 1);
        x.grey(0, 7, 6);
        x.grey(7, 7, 5);
        due("EDGE of the corner (0, 0)", x.dot(0, 0, 2), 5 + 5);
        due("EDGE of the corner (7, 0)", x.dot(7, 0, 2), 3 + 3);
        due("EDGE of the corner (0, 7)", x.dot(0, 7, 2), 2 + 2);
        due("EDGE of the corner (7, 7)", x.dot(7, 7, 2), 1 + 1);
    }

    /** What was cut off at the right or below must not be a neighbour of what is last then. */
    private static void noNeighbourOutOfThePicture() {
        checks.about("Terms 1: .. the DOT itself, where there is no other one: after the last DOTS were CUT");
        SeamPictures x = picture("195/195", "..g/..g");
        due("cut(0) at the right", x.cut(0), 10000 - 200 + 4 + 4);
        dueEdges("what is left at the right", x, new int[][] {{8, 8}, {8, 8}});
        x = picture("11/99/55", "../../gg");
        due("cut(1) at the bottom", x.cut(1), 10000 - 200 + 4 + 4);
        dueEdges("what is left at the bottom", x, new int[][] {{8, 8}, {8, 8}});
        x = picture("199/199/999", "");
        x.size(2, 2);
        x.grey(0, 0, 3);
        dueEdges("a lesser size", x, new int[][] {{3 + 3, 3}, {3, 0}});
    }

    private static void extrasAndWeights() {
        checks.about("Terms 1: EXTRA of a DOT: 100, if it is KEPT, -100, if it is GOING, else 0; promise 6: WEIGHT and 1000, added");
        SeamPictures x = picture("000/009/090", "");
        due("the greatest EDGE", x.dot(1, 1, 2), 18);
        due("its WEIGHT", x.dot(1, 1, 3), 1018);
        x.mark(1, 1, 1);
        due("the greatest WEIGHT", x.dot(1, 1, 3), 1118);
        due("EDGE has no EXTRA", x.dot(1, 1, 2), 18);
        x.mark(1, 1, 2);
        due("GOING at the greatest EDGE", x.dot(1, 1, 3), 918);
        x.size(2, 2);
        due("no EDGE", x.dot(0, 0, 2), 0);
        due("no EXTRA", x.dot(0, 0, 3), 1000);
        x.mark(0, 0, 2);
        due("the least WEIGHT", x.dot(0, 0, 3), 900);
        x.mark(0, 0, 1);
        due("KEPT, no EDGE", x.dot(0, 0, 3), 1100);
        x.mark(0, 0, 0);
        due("the MARK taken away", x.dot(0, 0, 3), 1000);
    }

    private static void whatOfDot() {
        checks.about("Promise 6: GREY (what = 0), MARK (1), EDGE (2), WEIGHT and 1000, added (3); OUTSIDE");
        SeamPictures x = picture("52/11", "g./..");
        int[] want = {OUTSIDE, OUTSIDE, 5, 2, 3 + 4, 1000 + 7 - 100, OUTSIDE, OUTSIDE};
        for (int what = -2; what <= 5; what++) {
            due("dot(0, 0, " + what + ")", x.dot(0, 0, what), want[what + 2]);
        }
        due("dot(0, 0, least)", x.dot(0, 0, LEAST), OUTSIDE);
        due("dot(0, 0, most)", x.dot(0, 0, MOST), OUTSIDE);
    }

    private static void newObject() {
        checks.about("Promise 1: Four by four, all 0");
        SeamPictures x = new SeamPictures();
        duePicture("new", x, rows("0", 4, 4), rows(".", 4, 4));
        due("THE RULE at first", x.count(5), 0);
        checks.about("Promise 1: THE PAD is empty");
        due("signs at first", x.count(6), 0);
        due("fault(0) at first", x.fault(0), 0);
        due("fault(1) at first", x.fault(1), 0);
        due("lay(0) at first", x.lay(0), FAULT);
        due("wipe() at first", x.wipe(), 0);
        due("the first sign", x.say('0'), 1);
        checks.about("Promise 1: no IMAGE is kept");
        due("IMAGES at first", x.count(7), 0);
        due("restore(0) at first", x.restore(0), STATE);
        due("restore(1) at first", x.restore(1), STATE);
        checks.about("Promise 1: a new object has nothing of another one");
        SeamPictures other = new SeamPictures();
        other.size(2, 2);
        other.rule(1);
        other.image(1);
        due("GREYS of the other", new SeamPictures().count(2), 0);
        due("size of the first", x.size(3, 3), 44);
        due("THE RULE of the first", x.count(5), 0);
        due("IMAGES of the first", x.count(7), 0);
    }

    private static void sizeBlanks() {
        checks.about("Promise 2: The PICTURE is WIDE and HIGH, all GREYS, MARKS 0");
        for (int[] to : new int[][] {{2, 2}, {8, 8}, {2, 8}, {8, 2}, {3, 3}}) {
            SeamPictures x = picture("123/456/789", "kkk/ggg/k.g");
            String call = "size(" + to[0] + ", " + to[1] + ")";
            due(call, x.size(to[0], to[1]), 33);
            duePicture(call, x, rows("0", to[0], to[1]), rows(".", to[0], to[1]));
        }
        SeamPictures x = picture(rows("9", 8, 8), rows("k", 8, 8));
        x.size(2, 2);
        x.size(8, 8);
        due("GREYS are 0 where there was no DOT meanwhile", x.count(2), 0);
        due("MARKS are 0 where there was no DOT meanwhile", x.count(3), 0);
        checks.about("Promise 2: 10 times WIDE and HIGH that were");
        x = new SeamPictures();
        due("size(2, 2)", x.size(2, 2), 44);
        due("size(2, 8)", x.size(2, 8), 22);
        due("size(8, 2)", x.size(8, 2), 28);
        due("size(8, 8)", x.size(8, 8), 82);
        due("size(8, 8) again", x.size(8, 8), 88);
        due("size(8, 9)", x.size(8, 9), OUTSIDE);
        x.cut(0);
        due("size after a cut", x.size(4, 4), 78);
    }

    // ---- Terms 4, promises 7 to 10

    private static void signsOfThePad() {
        checks.about("Promise 7: OUTSIDE: it is not 33 to 126");
        SeamPictures x = new SeamPictures();
        int signs = 0;
        for (int sign = -1; sign <= 300; sign++) {
            boolean taken = sign >= 33 && sign <= 126;
            if (taken && signs == 80) {
                due("wipe() of a full pad", x.wipe(), 80);
                signs = 0;
            }
            signs += taken ? 1 : 0;
            due("say(" + sign + ")", x.say(sign), taken ? signs : OUTSIDE);
        }
        due("signs", x.count(6), 14);
        for (int far : new int[] {LEAST, LEAST + 48, -48, 256 + 48, 65536 + 48, MOST}) {
            due("say(" + far + ")", x.say(far), OUTSIDE);
        }
    }

    private static void roomOfThePad() {
        checks.about("Terms 4: THE PAD has up to 80 signs; promise 7: A sign more on THE PAD: how many; FULL: there are 80");
        SeamPictures x = blank(8, 8);
        String right = rows("3", 8, 8);
        for (int n = 1; n <= 80; n++) {
            due("say, sign " + n, x.say(n <= right.length() ? right.charAt(n - 1) : '!'), n);
        }
        due("say, sign 81", x.say('3'), FULL);
        due("say, sign 81 again", x.say('/'), FULL);
        due("signs of a full pad", x.count(6), 80);
        due("fault(0) of a full pad", x.fault(0), 71);
        due("lay(0) of a full pad", x.lay(0), FAULT);
        due("wipe() of a full pad", x.wipe(), 80);
        due("say after wipe()", x.say('3'), 1);
        checks.about("Promise 10: THE PAD, which is empty then: there is room for 80 again");
        x.wipe();
        due("lay(0)", saying(x, right).lay(0), 64);
        for (int n = 1; n <= 80; n++) {
            due("say after lay, sign " + n, x.say('3'), n);
        }
        due("say after lay, sign 81", x.say('3'), FULL);
    }

    private static void wipeOfThePad() {
        checks.about("Promise 8: THE PAD is empty: how many signs it had");
        SeamPictures x = blank(3, 2);
        due("wipe() of none", x.wipe(), 0);
        x.say('1');
        due("wipe() of one", x.wipe(), 1);
        saying(x, "190/456");
        due("wipe() of seven", x.wipe(), 7);
        due("wipe() twice", x.wipe(), 0);
        due("signs", x.count(6), 0);
        saying(x, "190/45");
        due("what was wiped does not come back: fault(0)", x.fault(0), 6);
        due("what was wiped does not come back: lay(0)", x.lay(0), FAULT);
        due("wipe() of six", x.wipe(), 6);
        due("GREYS", x.count(2), 0);
    }

    private static void faultOfEachLength() {
        checks.about("Terms 4: THE FAULT: how many signs it has, if more must come; NONE: there is none; or the first sign too many");
        for (int wide = 2; wide <= 8; wide++) {
            for (int high = 2; high <= 8; high++) {
                dueFaultWhileSaying(wide, high, 0, "7");
                dueFaultWhileSaying(wide, high, 1, "k");
            }
        }
    }

    /** Says a right pad sign by sign, then signs too many until it is full; 244 calls. */
    private static void dueFaultWhileSaying(int wide, int high, int how, String sign) {
        SeamPictures x = blank(wide, high);
        String right = rows(sign, wide, high);
        String of = "fault(" + how + ") of " + wide + " by " + high + ", signs ";
        for (int n = 0; n <= 80; n++) {
            int want = n == right.length() ? NONE : Math.min(n, right.length());
            due(of + n, x.fault(how), want);
            due("as the other, signs " + n, x.fault(1 - how), 0);
            x.say(n < right.length() ? right.charAt(n) : n % 2 == 0 ? '/' : sign.charAt(0));
        }
    }

    private static void faultOfEachSign() {
        checks.about("Terms 4: As GREYS: rows, / between two of them, of figures 0 to 9: the first sign that can not stand there");
        dueFaultOfEachSign(0, "190/456", GREY_SIGNS);
        checks.about("Terms 4: as MARKS: likewise of . (none), k (KEPT), g (GOING): the first sign that can not stand there");
        dueFaultOfEachSign(1, ".kg/gk.", MARK_SIGNS);
        checks.about("Terms 4: the place, from 0 on, of the first sign that can not stand there: the first of several");
        SeamPictures x = blank(3, 2);
        due("fault(0) of two wrong signs", saying(x, "1x0/4x6").fault(0), 1);
        x.wipe();
        due("fault(0) of a wrong sign, and too few", saying(x, "19x/").fault(0), 2);
        x.wipe();
        due("fault(0) of a wrong sign, and too many", saying(x, "190/45x/123").fault(0), 6);
        x.wipe();
        due("fault(0) of too many, a wrong one behind", saying(x, "190/4567x").fault(0), 7);
        x.wipe();
        due("fault(0) of a row too short", saying(x, "19/0456").fault(0), 2);
        x.wipe();
        due("fault(0) of a row too long", saying(x, "1904/56").fault(0), 3);
        x.wipe();
        due("fault(0) of no / at all", saying(x, "1904567").fault(0), 3);
        x.wipe();
        due("fault(0) of a / at the front", saying(x, "/190/456").fault(0), 0);
        x.wipe();
        due("fault(0) of a / at the end", saying(x, "190/456/").fault(0), 7);
        checks.about("Promise 9: as GREYS (how = 0), as MARKS (1); OUTSIDE");
        for (int how : new int[] {LEAST, -2, -1, 2, 3, MOST}) {
            due("fault(" + how + ")", x.fault(how), OUTSIDE);
        }
    }

    private static void dueFaultOfEachSign(int how, String right, String fits) {
        for (int place = 0; place < right.length(); place++) {
            for (char sign = 33; sign <= 126; sign++) {
                SeamPictures x = blank(3, 2);
                String signs = right.substring(0, place) + sign + right.substring(place + 1);
                boolean stands = place == 3 ? sign == '/' : fits.indexOf(sign) >= 0;
                due("fault(" + how + ") of " + signs, saying(x, signs).fault(how), stands ? NONE : place);
                due("lay(" + how + ") of " + signs + " is refused", x.lay(how) == FAULT ? 1 : 0, stands ? 0 : 1);
            }
        }
    }

    private static void faultAsThePictureIs() {
        checks.about("Terms 4: as many rows as HIGH .. of as many figures as WIDE: as the PICTURE is when it is asked");
        SeamPictures x = saying(blank(3, 2), "190/456");
        due("three by two", x.fault(0), NONE);
        x.add(1);
        due("a row more", x.fault(0), 7);
        x.cut(1);
        due("a row less", x.fault(0), NONE);
        x.cut(0);
        due("a column less", x.fault(0), 2);
        x.add(0);
        x.add(0);
        due("a column more", x.fault(0), 3);
        x.size(3, 2);
        due("a new size", x.fault(0), NONE);
    }

    private static void layTakesAndRefuses() {
        checks.about("Promise 10: GREYS (how = 0), MARKS (1) are those on THE PAD, which is empty then");
        SeamPictures x = blank(2, 2);
        due("lay(0) of the least PICTURE", saying(x, "01/89").lay(0), 3);
        due("THE PAD after lay(0)", x.count(6), 0);
        due("lay(1) of the least PICTURE", saying(x, "k./gg").lay(1), 3);
        due("THE PAD after lay(1)", x.count(6), 0);
        duePicture("lay", x, "01/89", "k./gg");
        due("lay(0) of what was laid", x.lay(0), FAULT);
        x = blank(8, 8);
        String greys = "01234567/12345678/23456789/34567890/45678901/56789012/67890123/78901234";
        due("lay(0) of the greatest PICTURE", saying(x, greys).lay(0), 64 - 6);
        duePicture("lay(0) of the greatest PICTURE", x, greys, rows(".", 8, 8));

        checks.about("Promise 10: OUTSIDE; FAULT: THE PAD is not as told: one too few, none too few, one too many");
        x = saying(blank(3, 2), "111/11");
        due("lay(0) of one too few", x.lay(0), FAULT);
        due("THE PAD stays", x.count(6), 6);
        x.say('1');
        due("lay(1) of GREYS", x.lay(1), FAULT);
        x.say('1');
        due("lay(0) of one too many", x.lay(0), FAULT);
        due("GREYS", x.count(2), 0);
        due("THE PAD stays", x.wipe(), 8);
        saying(x, "111/11");
        x.lay(0);
        x.say('5');
        due("what was refused can be ended and laid", x.lay(0), 6);
        duePicture("what was refused, ended and laid", x, "111/115", ".../...");
        for (int how : new int[] {LEAST, -2, -1, 2, 3, MOST}) {
            due("lay(" + how + ")", saying(blank(2, 2), "12/34").lay(how), OUTSIDE);
        }
    }

    private static void layTellsHowManyChanged() {
        checks.about("Promise 10: how many of them changed");
        SeamPictures x = blank(2, 2);
        due("lay(0): none of GREYS", saying(x, "00/00").lay(0), 0);
        due("lay(1): none of MARKS", saying(x, "../..").lay(1), 0);
        due("lay(0): the last one", saying(x, "00/01").lay(0), 1);
        due("lay(1): the first one", saying(x, "k./..").lay(1), 1);
        due("lay(1): from KEPT to GOING", saying(x, "g./..").lay(1), 1);
        due("lay(1): from GOING to none", saying(x, "../..").lay(1), 1);
        due("lay(0): all", saying(x, "98/76").lay(0), 4);
        due("lay(0): none again", saying(x, "98/76").lay(0), 0);
        x = blank(8, 8);
        due("lay(0): all of the greatest PICTURE", saying(x, rows("9", 8, 8)).lay(0), 64);
        due("lay(1): all of the greatest PICTURE", saying(x, rows("g", 8, 8)).lay(1), 64);
        due("GREYS", x.count(2), 576);
        due("GOING", x.count(4), 64);
    }
}
