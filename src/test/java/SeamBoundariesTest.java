/**
 * The boundary cases of seams, in 'Terms' 1 to 3 and promises 11 to 18, sentence by sentence: the last
 * input that is taken and the first that is refused. RefusalsTest has the order of refusals and what
 * a refused call leaves as it was.
 */
public final class SeamBoundariesTest extends Examples {
    private static final int[] NO_WAYS = {LEAST, -2, -1, 2, 3, MOST};

    public static void main(String[] args) {
        dotsOfSeams();
        waysOfSeams();
        firstDotOfSeams();
        turnsOfSeams();
        equalSeams();
        leastAndGreatestCosts();
        seamAsThingsAre();
        numbersOfSeams();
        longNumbers();
        cutAtTheEdges();
        cutDownToTwo();
        addAtTheEdges();
        addedGreysAreCut();
        addUpToEight();
        leastOfRowsAndColumns();
        leastAmongEquals();
        reachOfBestTableAndGo();
        whatOfBest();
        bestOfNothing();
        bestAtItsLimits();
        whatOfTable();
        tableAtItsLimits();
        goAtItsLimits();
        checks.finish();
    }

    // ---- promises 11 and 12

    private static void dotsOfSeams() {
        checks.about("Promise 11: its COST and 10000, added (i = -1), its i-th DOT, from 0 on; NONE: there is none such; OUTSIDE: i is below -1");
        for (int wide = 2; wide <= 8; wide++) {
            for (int high = 2; high <= 8; high++) {
                SeamPictures x = blank(wide, high);
                for (int way = 0; way <= 1; way++) {
                    int dots = way == 0 ? high : wide;
                    for (int i = -3; i <= 10; i++) {
                        int want = i < -1 ? OUTSIDE : i == -1 ? 10000 : i < dots ? 0 : NONE;
                        due("seam(" + way + ", " + i + ") of " + wide + " by " + high, x.seam(way, i), want);
                    }
                }
            }
        }
        SeamPictures x = new SeamPictures();
        for (int way = 0; way <= 1; way++) {
            due("seam(" + way + ", most)", x.seam(way, MOST), NONE);
            due("seam(" + way + ", least)", x.seam(way, LEAST), OUTSIDE);
        }
        x = picture("00/00", ".g/.g");
        dueSeam("at the last x", x, 0, -200, 1, 1);
        x = picture("00/00", "../gg");
        dueSeam("at the last y", x, 1, -200, 1, 1);
        x = blank(8, 8);
        for (int i = 0; i < 8; i++) {
            x.mark(i, i, 2);
        }
        dueSeam("through all of x", x, 0, -800, 0, 1, 2, 3, 4, 5, 6, 7);
        dueSeam("through all of y", x, 1, -800, 0, 1, 2, 3, 4, 5, 6, 7);
        x = blank(8, 8);
        for (int i = 0; i < 8; i++) {
            x.mark(7 - i, i, 2);
        }
        dueSeam("through all of x, from the last", x, 0, -800, 7, 6, 5, 4, 3, 2, 1, 0);
        dueSeam("through all of y, from the last", x, 1, -800, 7, 6, 5, 4, 3, 2, 1, 0);
    }

    private static void waysOfSeams() {
        checks.about("Promise 11: UPRIGHT (way = 0), LYING (1); OUTSIDE: way");
        for (int way : NO_WAYS) {
            due("seam(" + way + ", -1)", new SeamPictures().seam(way, -1), OUTSIDE);
            due("seam(" + way + ", 0)", new SeamPictures().seam(way, 0), OUTSIDE);
        }
        checks.about("Promise 12: UPRIGHT (way = 0), LYING (1); OUTSIDE: way");
        for (int way : NO_WAYS) {
            due("cost(" + way + ", 0)", new SeamPictures().cost(way, 0), OUTSIDE);
        }
        checks.about("Promise 13: a way; OUTSIDE");
        for (int way : NO_WAYS) {
            due("cut(" + way + ")", new SeamPictures().cut(way), OUTSIDE);
        }
        checks.about("Promise 14: a way; OUTSIDE");
        for (int way : NO_WAYS) {
            due("add(" + way + ")", new SeamPictures().add(way), OUTSIDE);
        }
        checks.about("Promise 15: way = 0, 1; OUTSIDE: way");
        for (int way : NO_WAYS) {
            due("least(" + way + ", 0)", new SeamPictures().least(way, 0), OUTSIDE);
        }
    }

    private static void firstDotOfSeams() {
        checks.about("Terms 1: by RULE 1 .. if the DOT ahead has a lesser x, .. a greater x: the first DOT has none ahead");
        // The greys of a row are all equal, so nothing but turns can cost.
        SeamPictures x = picture("99/33/33", "");
        x.rule(1);
        due("straight at the left", x.cost(0, 0), 10000);
        due("straight at the right: nothing is ahead of the first DOT", x.cost(0, 111), 10000);
        due("a turn to the right at the second DOT", x.cost(0, 11), 10006);
        due("a turn to the left at the second DOT", x.cost(0, 100), 10006);
        due("a turn to the right at the last DOT", x.cost(0, 1), 10000);
        due("two turns", x.cost(0, 101), 10006);
        x = picture("933/933", "");
        x.rule(1);
        due("LYING: straight above", x.cost(1, 0), 10000);
        due("LYING: straight below", x.cost(1, 111), 10000);
        due("LYING: down at the second DOT", x.cost(1, 11), 10006);
        due("LYING: up at the second DOT", x.cost(1, 100), 10006);
        due("LYING: down at the last DOT", x.cost(1, 1), 10000);

        checks.about("Terms 1: by RULE 1 the neighbours at the left and right edge are the DOT itself");
        x = picture("17/17", "");
        x.rule(1);
        due("RULE 1, at the left edge", x.cost(0, 0), 10012);
        due("RULE 1, at the right edge", x.cost(0, 11), 10012);
        // To come to x = 1 from x = 0: above it is 7, to its left 1.
        due("RULE 1, from edge to edge", x.cost(0, 1), 10012 + 6);
        // To come to x = 0 from x = 1: above it is 1, to its right 7.
        due("RULE 1, from edge to edge and back", x.cost(0, 10), 10012 + 6);
    }

    private static void turnsOfSeams() {
        checks.about("Terms 1: by RULE 1, if the DOT ahead has a lesser x, neighbour above and to the left; a greater x, above and to the right");
        SeamPictures x = picture("1590/3728/6041", "");
        x.rule(1);
        due("to the left, from the inside to the edge", x.cost(0, 210), 10000 + 5 + (1 + 3) + (6 + 3));
        due("to the right, from the inside to the edge", x.cost(0, 123), 10000 + 8 + (1 + 2) + (3 + 4));
        due("to the left, from the edge", x.cost(0, 321), 10000 + 9 + (1 + 1) + (2 + 3));
        due("to the right, from the edge", x.cost(0, 12), 10000 + 4 + (1 + 2) + (1 + 2));
        x = picture("136/570/924/081", "");
        x.rule(1);
        due("LYING: up, from the inside to the edge", x.cost(1, 210), 10000 + 5 + (1 + 3) + (6 + 3));
        due("LYING: down, from the inside to the edge", x.cost(1, 123), 10000 + 8 + (1 + 2) + (3 + 4));
        due("LYING: up, from the edge", x.cost(1, 321), 10000 + 9 + (1 + 1) + (2 + 3));
        due("LYING: down, from the edge", x.cost(1, 12), 10000 + 4 + (1 + 2) + (1 + 2));
        checks.about("Terms 1: by RULE 1 THE SEAM has the COST of its turns, those of the last DOT too");
        x = picture("50/92", "g./.g");
        x.rule(1);
        dueSeam("to the right", x, 0, -200 + 5 + 7 + 9, 0, 1);
        x = picture("50/92", ".g/g.");
        x.rule(1);
        dueSeam("to the left", x, 0, -200 + 5 + 7 + 3, 1, 0);
        x = picture("59/02", "g./.g");
        x.rule(1);
        dueSeam("LYING: down", x, 1, -200 + 5 + 7 + 9, 0, 1);
        x = picture("59/02", ".g/g.");
        x.rule(1);
        dueSeam("LYING: up", x, 1, -200 + 5 + 7 + 3, 1, 0);
    }

    private static void equalSeams() {
        checks.about("Terms 1: of several that which has, at the first row in which they differ, the lesser x");
        dueSeam("all equal", blank(8, 8), 0, 0, 0, 0, 0, 0, 0, 0, 0, 0);
        dueSeam("they differ at the first row", picture("000/000", "kgg/..."), 0, -100, 1, 0);
        dueSeam("they differ at the last row", picture("000/000", ".g./kgg"), 0, -200, 1, 1);
        dueSeam("they differ at the middle row", picture("000/000/000", "kgk/.../kgk"), 0, -200, 1, 0, 1);
        dueSeam("a lesser x at the first row, a greater one at the last", picture("000/000", "gkg/..."), 0, -100, 0, 0);
        dueSeam("the least of all x at the last row does not win",
                picture("0000/0000/0000", "g.g./.g../g..g"), 0, -300, 0, 1, 0);
        dueSeam("the first row is looked at ahead of the others",
                picture("0000/0000/0000", "gkgk/kgkk/kkgk"), 0, -300, 0, 1, 2);
        checks.about("Terms 1: LYING SEAMS: likewise: at the first column in which they differ, the lesser y");
        dueSeam("all equal", blank(8, 8), 1, 0, 0, 0, 0, 0, 0, 0, 0, 0);
        dueSeam("they differ at the first column", picture("00/00/00", "k./g./g."), 1, -100, 1, 0);
        dueSeam("they differ at the last column", picture("00/00/00", ".k/gg/.g"), 1, -200, 1, 1);
        dueSeam("the first column is looked at ahead of the others",
                picture("000/000/000/000", "gkk/kgk/gkg/kkk"), 1, -300, 0, 1, 2);
    }

    private static void leastAndGreatestCosts() {
        checks.about("Promise 11: its COST and 10000, added: all GOING, all KEPT");
        SeamPictures x = picture(rows("0", 8, 8), rows("g", 8, 8));
        due("all GOING, UPRIGHT", x.seam(0, -1), 9200);
        due("all GOING, LYING", x.seam(1, -1), 9200);
        x = picture(rows("0", 8, 8), rows("k", 8, 8));
        due("all KEPT, UPRIGHT", x.seam(0, -1), 10800);
        due("all KEPT, LYING", x.seam(1, -1), 10800);
        checks.about("Promise 12: COST and 10000, added: the greatest and the least of a SEAM");
        // Each dot of the middle column has 0 and 9 beside it, and 0 and 9 above and below it.
        x = picture("009/099/099/009/009/099/099/009", rows("k", 3, 8));
        due("the greatest by RULE 0", x.cost(0, 11111111), 10000 + 8 * 118);
        x.rule(1);
        due("the same by RULE 1", x.cost(0, 11111111), 10000 + 8 * 109);
        // Above the last dot is 9, to its left 0, so that it costs 9 to come to it from there.
        due("with a turn at the last DOT", x.cost(0, 11111112), 10000 + 8 * 109 + 9);
        x = picture("00000000/09900990/99999999", rows("g", 8, 3));
        due("LYING, all GOING, by RULE 0", x.cost(1, 11111111), 10000 + 8 * (18 - 100));
        x.size(8, 8);
        saying(x, rows("g", 8, 8)).lay(1);
        due("the least", x.cost(0, 0), 9200);
    }

    private static void seamAsThingsAre() {
        checks.about("Terms: All that is told is as things are when it is asked: THE SEAM after each change");
        SeamPictures x = blank(3, 3);
        dueSeam("blank", x, 0, 0, 0, 0, 0);
        x.mark(1, 0, 2);
        dueSeam("a GOING dot", x, 0, -100, 1, 0, 0);
        x.mark(1, 0, 0);
        dueSeam("and none again", x, 0, 0, 0, 0, 0);
        x.grey(0, 1, 9);
        due("a grey: 9 beside x = 0 and 1 at y = 1", x.cost(0, 0), 10000 + 9 + 9 + 9);
        dueSeam("a grey", x, 0, 0, 1, 2, 1);
        x.rule(1);
        dueSeam("by RULE 1", x, 0, 0, 1, 2, 1);
        x.cut(0);
        due("after a cut", x.seam(0, 3), NONE);
        due("after a cut, LYING", x.seam(1, 2), NONE);
    }

    private static void dueSeamNumbers(int wide, int high, int way, int to, String taken) {
        SeamPictures x = blank(wide, high);
        for (int number = 0; number <= to; number++) {
            boolean isSeam = (" " + taken + " ").contains(" " + number + " ");
            due("cost(" + way + ", " + number + ") of " + wide + " by " + high,
                    x.cost(way, number), isSeam ? 10000 : NO);
        }
    }

    private static void numbersOfSeams() {
        checks.about("Promise 12: as many figures as it has DOTS (noughts at the front are left out); NO: it is no SEAM");
        dueSeamNumbers(2, 2, 0, 400, "0 1 10 11");
        dueSeamNumbers(2, 2, 1, 400, "0 1 10 11");
        dueSeamNumbers(3, 2, 0, 400, "0 1 10 11 12 21 22");
        dueSeamNumbers(3, 2, 1, 400, "0 1 10 11 100 101 110 111");
        dueSeamNumbers(2, 3, 0, 400, "0 1 10 11 100 101 110 111");
        dueSeamNumbers(2, 3, 1, 400, "0 1 10 11 12 21 22");
        dueSeamNumbers(8, 2, 0, 400, "0 1 10 11 12 21 22 23 32 33 34 43 44 45 54 55 56 65 66 67 76 77");
        dueSeamNumbers(2, 8, 1, 400, "0 1 10 11 12 21 22 23 32 33 34 43 44 45 54 55 56 65 66 67 76 77");
    }

    private static void longNumbers() {
        checks.about("Promise 12: x (y) of its DOTS as figures, that of the first DOT highest: eight of them");
        dueCosts(10000, 0, 1, 11, 1234567, 10000000, 12345677, 76543210, 77777776, 77777777);
        checks.about("Promise 12: NO: it is no SEAM: a figure too great, a step too far, a figure too many");
        dueCosts(NO, 77777778, 87777777, 88888888, 99999999);
        dueCosts(NO, 2, 20, 20000000, 57777777, 77777775);
        dueCosts(NO, 100000000, 111111111, 177777777, 1000000000, 1111111111, MOST);
        checks.about("Promise 12: OUTSIDE: the number is below 0");
        dueCosts(OUTSIDE, -1, -2, -11, -11111111, LEAST + 1, LEAST);
        checks.about("Promise 12: the first DOT's figure is the highest: noughts at the front are DOTS at 0");
        SeamPictures x = picture("000/000/000", "k../.../..g");
        due("cost(0, 12): at the KEPT dot first", x.cost(0, 12), 10000);
        due("cost(0, 112): not at the KEPT dot", x.cost(0, 112), 9900);
        due("cost(0, 0)", x.cost(0, 0), 10100);
        due("cost(0, 210): from the last to the first", x.cost(0, 210), 10000);
    }

    private static void dueCosts(int want, int... numbers) {
        SeamPictures x = blank(8, 8);
        for (int number : numbers) {
            due("cost(0, " + number + ")", x.cost(0, number), want);
            due("cost(1, " + number + ")", x.cost(1, number), want);
        }
    }

    // ---- promises 13 to 15

    private static void cutAtTheEdges() {
        checks.about("Terms 2: A SEAM is CUT: its DOTS go, those to the right of them come one place nearer: the first, the last, each other one");
        SeamPictures x = picture("123/456", "g.k/gk.");
        due("cut(0) at the left", x.cut(0), 10000 - 200 + (1 + 3) + (1 + 3));
        duePicture("cut(0) at the left", x, "23/56", ".k/k.");
        x = picture("123/456", ".kg/k.g");
        due("cut(0) at the right", x.cut(0), 10000 - 200 + (1 + 3) + (1 + 3));
        duePicture("cut(0) at the right", x, "12/45", ".k/k.");
        x = picture("123/456", "g.k/.g.");
        due("cut(0) askew", x.cut(0), 10000 - 200 + (1 + 3) + (2 + 3));
        duePicture("cut(0) askew", x, "23/46", ".k/..");
        checks.about("Terms 2: A SEAM is CUT: (of a LYING one: below them): the first, the last, each other one");
        x = picture("14/25/36", "gg/.k/k.");
        due("cut(1) above", x.cut(1), 10000 - 200 + (1 + 3) + (1 + 3));
        duePicture("cut(1) above", x, "25/36", ".k/k.");
        x = picture("14/25/36", ".k/k./gg");
        due("cut(1) below", x.cut(1), 10000 - 200 + (1 + 3) + (1 + 3));
        duePicture("cut(1) below", x, "14/25", ".k/k.");
        x = picture("14/25/36", "g./.g/k.");
        due("cut(1) askew", x.cut(1), 10000 - 200 + (1 + 3) + (2 + 3));
        duePicture("cut(1) askew", x, "24/36", "../k.");
    }

    private static void cutDownToTwo() {
        checks.about("Promise 13: STATE: there are 2 DOTS in that direction only");
        for (int way = 0; way <= 1; way++) {
            for (int other = 2; other <= 8; other++) {
                SeamPictures x = way == 0 ? blank(8, other) : blank(other, 8);
                for (int left = 7; left >= 2; left--) {
                    String call = "cut(" + way + ") to " + left + ", the other way " + other;
                    due(call, x.cut(way), 10000);
                    dueSize(call, x, way == 0 ? left : other, way == 0 ? other : left);
                }
                String call = "cut(" + way + ") of two, the other way " + other;
                due(call, x.cut(way), STATE);
                dueSize(call, x, way == 0 ? 2 : other, way == 0 ? other : 2);
                due("cut of the other way " + other, x.cut(1 - way), other == 2 ? STATE : 10000);
            }
        }
        checks.about("Promise 13: STATE is told of the PICTURE as it is: room comes again");
        SeamPictures x = blank(2, 2);
        due("cut(0) of two", x.cut(0), STATE);
        x.add(0);
        due("cut(0) of three", x.cut(0), 10000);
        due("cut(0) of two again", x.cut(0), STATE);
        due("cut(1) of two", x.cut(1), STATE);
    }

    private static void addAtTheEdges() {
        checks.about("Terms 2: A SEAM is ADDED: to the right of each of its DOTS comes a new one, without MARK; the others go one place on");
        SeamPictures x = picture("048/246", "gk./g.k");
        due("add(0) at the left", x.add(0), 10000 - 200 + (4 + 2) + (2 + 2));
        duePicture("add(0) at the left", x, "0248/2346", "g.k./g..k");
        x = picture("048/246", "k.g/.kg");
        due("add(0) at the right: its neighbour is the DOT itself", x.add(0), 10000 - 200 + (4 + 2) + (2 + 2));
        duePicture("add(0) at the right", x, "0488/2466", "k.g./.kg.");
        x = picture("048/246", "g.k/.g.");
        due("add(0) askew", x.add(0), 10000 - 200 + (4 + 2) + (4 + 0));
        duePicture("add(0) askew", x, "0248/2456", "g..k/.g..");
        checks.about("Terms 2: A SEAM is ADDED: (below) each of its DOTS comes a new one; the others go one place on");
        x = picture("02/44/86", "gg/k./.k");
        due("add(1) above", x.add(1), 10000 - 200 + (4 + 2) + (2 + 2));
        duePicture("add(1) above", x, "02/23/44/86", "gg/../k./.k");
        x = picture("02/44/86", "k./.k/gg");
        due("add(1) below: its neighbour is the DOT itself", x.add(1), 10000 - 200 + (4 + 2) + (2 + 2));
        duePicture("add(1) below", x, "02/44/86/86", "k./.k/gg/..");
        x = picture("02/44/86", "g./.g/k.");
        due("add(1) askew", x.add(1), 10000 - 200 + (4 + 2) + (4 + 0));
        duePicture("add(1) askew", x, "02/24/45/86", "g./.g/../k.");
        checks.about("Terms 2: a new one, without MARK: where a MARK was before it was CUT");
        x = picture("000/000", "gkk/gkk");
        x.cut(0);
        x.add(0);
        due("KEPT", x.count(3), 4);
        duePicture("added again", x, "000/000", "k.k/k.k");
        x = picture("000/000", "..g/..g");
        x.cut(0);
        x.mark(0, 0, 1);
        x.mark(0, 1, 1);
        x.add(0);
        duePicture("added at the right, where a GOING dot was", x, "000/000", "k../k..");
    }

    private static void addedGreysAreCut() {
        checks.about("Terms: Quotients are cut; Terms 2: GREY is that of the DOT and of its neighbour to the right (below), added, by 2");
        for (int left = 0; left <= 9; left++) {
            for (int right = 0; right <= 9; right++) {
                int between = (left + right - (left + right) % 2) / 2;
                SeamPictures x = blank(2, 2);
                x.grey(0, 0, left);
                x.grey(1, 0, right);
                x.mark(0, 0, 2);
                x.mark(0, 1, 2);
                x.add(0);
                due("between " + left + " and " + right, x.dot(1, 0, 0), between);
                due("behind it", x.dot(2, 0, 0), right);
                x = blank(2, 2);
                x.grey(0, 0, left);
                x.grey(0, 1, right);
                x.mark(0, 0, 2);
                x.mark(1, 0, 2);
                x.add(1);
                due("between " + left + " above and " + right, x.dot(0, 1, 0), between);
                due("below it", x.dot(0, 2, 0), right);
            }
        }
    }

    private static void addUpToEight() {
        checks.about("Promise 14: STATE: there are 8 DOTS in that direction");
        for (int way = 0; way <= 1; way++) {
            for (int other = 2; other <= 8; other++) {
                SeamPictures x = way == 0 ? blank(2, other) : blank(other, 2);
                for (int now = 3; now <= 8; now++) {
                    String call = "add(" + way + ") to " + now + ", the other way " + other;
                    due(call, x.add(way), 10000);
                    dueSize(call, x, way == 0 ? now : other, way == 0 ? other : now);
                }
                String call = "add(" + way + ") of eight, the other way " + other;
                due(call, x.add(way), STATE);
                dueSize(call, x, way == 0 ? 8 : other, way == 0 ? other : 8);
                due("add of the other way " + other, x.add(1 - way), other == 8 ? STATE : 10000);
            }
        }
        checks.about("Promise 14: STATE is told of the PICTURE as it is: room comes again");
        SeamPictures x = blank(8, 8);
        due("add(0) of eight", x.add(0), STATE);
        x.cut(0);
        due("add(0) of seven", x.add(0), 10000);
        due("add(0) of eight again", x.add(0), STATE);
        due("add(1) of eight", x.add(1), STATE);
    }

    private static void leastOfRowsAndColumns() {
        checks.about("Promise 15: in row y (column x) i; UNKNOWN: there is no such row (column)");
        for (int wide = 2; wide <= 8; wide++) {
            for (int high = 2; high <= 8; high++) {
                SeamPictures x = blank(wide, high);
                for (int i = -2; i <= 10; i++) {
                    String of = i + ") of " + wide + " by " + high;
                    due("least(0, " + of, x.least(0, i), i >= 0 && i < high ? 0 : UNKNOWN);
                    due("least(1, " + of, x.least(1, i), i >= 0 && i < wide ? 0 : UNKNOWN);
                }
            }
        }
        SeamPictures x = blank(8, 8);
        for (int far : new int[] {LEAST, LEAST + 1, MOST - 1, MOST}) {
            due("least(0, " + far + ")", x.least(0, far), UNKNOWN);
            due("least(1, " + far + ")", x.least(1, far), UNKNOWN);
        }
    }

    private static void leastAmongEquals() {
        checks.about("Promise 15: the DOT with the least WEIGHT: the first, the last, each other one");
        for (int i = 0; i < 8; i++) {
            SeamPictures lying = blank(8, 2);
            lying.mark(i, 1, 2);
            due("least(0, 1) of eight by two", lying.least(0, 1), i);
            due("least(0, 0) of eight by two", lying.least(0, 0), 0);
            SeamPictures upright = blank(2, 8);
            upright.mark(1, i, 2);
            due("least(1, 1) of two by eight", upright.least(1, 1), i);
            due("least(1, 0) of two by eight", upright.least(1, 0), 0);
        }
        checks.about("Promise 15: the DOT with the least WEIGHT, of several the least");
        SeamPictures x = blank(8, 8);
        for (int i = 0; i < 8; i++) {
            x.mark(i, 3, 1);
            x.mark(5, i, 1);
        }
        due("all KEPT in the row", x.least(0, 3), 0);
        due("all KEPT in the column", x.least(1, 5), 0);
        x.mark(7, 3, 0);
        due("the last of the row", x.least(0, 3), 7);
        x.mark(5, 7, 0);
        due("the last of the column", x.least(1, 5), 7);
        x.mark(6, 3, 0);
        due("of two the lesser x", x.least(0, 3), 6);
        x.mark(5, 6, 0);
        due("of two the lesser y", x.least(1, 5), 6);
        x.mark(7, 3, 2);
        due("a GOING one", x.least(0, 3), 7);
        x = picture("0000/0009", "");
        due("WEIGHTS 0 0 0 9", x.least(0, 0), 0);
        due("WEIGHTS 0 0 9 18", x.least(0, 1), 0);
        x.rule(1);
        due("by RULE 1 it is the WEIGHT too: 9 and 18 in the last column", x.least(1, 3), 0);
        x = picture("050/000/000", "");
        // Row 0 weighs 5, 5, 5 by WEIGHT; its gaps to the left and right alone are 5, 0, 5.
        due("WEIGHTS 5 5 5", x.least(0, 0), 0);
        x.rule(1);
        due("WEIGHTS 5 5 5 by RULE 1", x.least(0, 0), 0);
    }

    // ---- promises 16 to 18

    private static int waysToOrder(int a, int b) {
        return a == 0 || b == 0 ? 1 : waysToOrder(a - 1, b) + waysToOrder(a, b - 1);
    }

    private static void reachOfBestTableAndGo() {
        checks.about("Promises 16, 17, 18: OUTSIDE: a is not 0 to WIDE less 2, b not 0 to HIGH less 2, a and b, added, are above 6");
        for (int wide = 2; wide <= 8; wide++) {
            for (int high = 2; high <= 8; high++) {
                SeamPictures x = blank(wide, high);
                for (int a = -1; a <= 8; a++) {
                    for (int b = -1; b <= 8; b++) {
                        boolean taken = a >= 0 && a <= wide - 2 && b >= 0 && b <= high - 2 && a + b <= 6;
                        String of = "(" + a + ", " + b + ") of " + wide + " by " + high;
                        due("best" + of, x.best(a, b, 1), taken ? waysToOrder(a, b) : OUTSIDE);
                        due("table" + of, x.table(a, b, 0), taken ? 10000 : OUTSIDE);
                        SeamPictures gone = blank(wide, high);
                        due("go" + of, gone.go(a, b), taken ? 10000 : OUTSIDE);
                        dueSize("go" + of, gone, taken ? wide - a : wide, taken ? high - b : high);
                    }
                }
            }
        }
        SeamPictures x = blank(8, 8);
        // As ints the last three sums are 0, 6 and -2.
        int[][] far = {{LEAST, 0}, {0, LEAST}, {MOST, 0}, {0, MOST}, {LEAST, LEAST}, {MOST, LEAST + 7}, {MOST, MOST}};
        for (int[] f : far) {
            String of = "(" + f[0] + ", " + f[1] + ")";
            due("best" + of, x.best(f[0], f[1], 0), OUTSIDE);
            due("table" + of, x.table(f[0], f[1], 0), OUTSIDE);
            due("go" + of, x.go(f[0], f[1]), OUTSIDE);
        }
        dueSize("far away", x, 8, 8);
    }

    private static void whatOfBest() {
        checks.about("Promise 16: (what = 0), (1), (2), (3); OUTSIDE: what");
        SeamPictures x = picture("000/000", "kkk/kkk");
        int[] want = {OUTSIDE, OUTSIDE, 10200, 1, 0, 2, OUTSIDE, OUTSIDE};
        for (int what = -2; what <= 5; what++) {
            due("best(1, 0, " + what + ")", x.best(1, 0, what), want[what + 2]);
        }
        due("best(1, 0, least)", x.best(1, 0, LEAST), OUTSIDE);
        due("best(1, 0, most)", x.best(1, 0, MOST), OUTSIDE);
    }

    private static void dueBest(String of, SeamPictures x, int a, int b, int... want) {
        for (int what = 0; what < 4; what++) {
            due("best(" + a + ", " + b + ", " + what + ") of " + of, x.best(a, b, what), want[what]);
        }
    }

    private static void bestOfNothing() {
        checks.about("Terms 3: TO (a, b), a and b being 0: one ORDER without SEAMS, at COST 0");
        dueBest("the least PICTURE", picture("19/91", "kg/gk"), 0, 0, 10000, 1, 0, 0);
        dueBest("the greatest PICTURE", picture(rows("9", 8, 8), rows("k", 8, 8)), 0, 0, 10000, 1, 0, 0);
        SeamPictures x = picture("19/91", "kg/gk");
        due("go(0, 0)", x.go(0, 0), 10000);
        duePicture("go(0, 0)", x, "19/91", "kg/gk");
    }

    private static void bestAtItsLimits() {
        checks.about("Promise 16: its COST and 10000, added; how many KEPT DOTS are CUT by it: all KEPT, all GOING");
        SeamPictures x = picture(rows("0", 8, 8), rows("k", 8, 8));
        dueBest("all KEPT", x, 6, 0, 14800, 1, 0, 48);
        dueBest("all KEPT", x, 0, 6, 14800, 1, 63, 48);
        dueBest("all KEPT", x, 3, 3, 13900, 20, 0b111000, 39);
        dueBest("all KEPT", x, 1, 5, 10000 + 100 * (64 - 7 * 3), 6, 0b111110, 43);
        x = picture(rows("0", 8, 8), rows("g", 8, 8));
        dueBest("all GOING", x, 6, 0, 5200, 1, 0, 0);
        dueBest("all GOING", x, 3, 3, 6100, 20, 0b111000, 0);
        checks.about("Terms 3: of several that which has, at the first SEAM at which they differ, the UPRIGHT one; promise 16: bit i, if the i-th SEAM is a LYING one");
        x = blank(8, 8);
        dueBest("all equal", x, 1, 1, 10000, 2, 0b10, 0);
        dueBest("all equal", x, 5, 1, 10000, 6, 0b100000, 0);
        dueBest("all equal", x, 1, 5, 10000, 6, 0b111110, 0);
        dueBest("all equal", x, 2, 4, 10000, 15, 0b111100, 0);
    }

    private static void whatOfTable() {
        checks.about("Promise 17: OUTSIDE: what is not 0, nor 10 to 89");
        SeamPictures x = picture("123/456", "");
        for (int what = -12; what <= 101; what++) {
            boolean taken = what == 0 || what >= 10 && what <= 89;
            due("is table(0, 0, " + what + ") refused", x.table(0, 0, what) == OUTSIDE ? 1 : 0, taken ? 0 : 1);
        }
        due("table(0, 0, least)", x.table(0, 0, LEAST), OUTSIDE);
        due("table(0, 0, most)", x.table(0, 0, MOST), OUTSIDE);
        checks.about("Promise 17: GREY of the DOT that then is at (x, y), x being what by 10 less 1, y what left over by 10; NONE: there is no such DOT");
        dueGreysOfTable(x, 0, 0, "123/456");
        String greys = "01234567/12345678/23456789/34567890/45678901/56789012/67890123/78901234";
        dueGreysOfTable(picture(greys, ""), 0, 0, greys);
        // The GOING dots are cut first, at whatever the greys are.
        dueGreysOfTable(picture(greys, rows("g.......", 1, 8)), 1, 0,
                "1234567/2345678/3456789/4567890/5678901/6789012/7890123/8901234");
        dueGreysOfTable(picture(greys, rows(".", 8, 7) + "/gggggggg"), 0, 1,
                "01234567/12345678/23456789/34567890/45678901/56789012/67890123");
        dueGreysOfTable(picture(greys, rows("gggggg..", 1, 8)), 6, 0, "67/78/89/90/01/12/23/34");
        dueGreysOfTable(picture("12/34", ""), 0, 0, "12/34");
    }

    private static void dueGreysOfTable(SeamPictures x, int a, int b, String greys) {
        String[] row = greys.split("/");
        for (int what = 10; what <= 89; what++) {
            int i = what / 10 - 1;
            int y = what % 10;
            boolean there = y < row.length && i < row[y].length();
            due("table(" + a + ", " + b + ", " + what + ")", x.table(a, b, what), there ? row[y].charAt(i) - '0' : NONE);
        }
    }

    private static void tableAtItsLimits() {
        checks.about("Terms 3: TABLE: (0, 0): the PICTURE as it is, at COST 0");
        SeamPictures x = picture(rows("7", 8, 8), rows("k", 8, 8));
        due("table(0, 0, 0)", x.table(0, 0, 0), 10000);
        due("table(0, 0, 87)", x.table(0, 0, 87), 7);
        checks.about("Terms 3: TABLE: (i, 0), i above 0: that of (i less 1, 0), THE UPRIGHT SEAM being CUT; (0, j) likewise");
        for (int n = 1; n <= 6; n++) {
            due("table(" + n + ", 0, 0), all KEPT", x.table(n, 0, 0), 10000 + 800 * n);
            due("table(0, " + n + ", 0), all KEPT", x.table(0, n, 0), 10000 + 800 * n);
            due("the last DOT of (" + n + ", 0)", x.table(n, 0, 10 * (8 - n) + 7), 7);
            due("the first DOT that is none of (" + n + ", 0)", x.table(n, 0, 10 * (8 - n) + 17), NONE);
            due("the last DOT of (0, " + n + ")", x.table(0, n, 80 + 7 - n), 7);
            due("the first DOT that is none of (0, " + n + ")", x.table(0, n, 80 + 8 - n), NONE);
        }
        checks.about("Terms 3: TABLE: other (i, j), up to a and b, added, being 6");
        for (int a = 1; a <= 5; a++) {
            int left = (8 - a) * (8 - (6 - a));
            due("table(" + a + ", " + (6 - a) + ", 0), all KEPT", x.table(a, 6 - a, 0), 10000 + 100 * (64 - left));
            due("table(" + a + ", " + (7 - a) + ", 0)", x.table(a, 7 - a, 0), OUTSIDE);
        }
        checks.about("Terms 3: TABLE: the first of these, if both have as much");
        // Both orders cost 22; upright first would leave 81/36.
        x = picture("851/367/274", "");
        due("table(1, 1, 0)", x.table(1, 1, 0), 10022);
        dueGreysOfTable(x, 1, 1, "85/34");
        checks.about("Terms 3: TABLE: whichever of both has the lesser COST: lesser by 1");
        // Upright first 8 and 5, lying first 8 and 6, which would leave 75/42.
        x = picture("724/465/412", "");
        due("that of (1, 0), THE LYING SEAM being CUT", x.table(1, 1, 0), 10013);
        dueGreysOfTable(x, 1, 1, "72/42");
        // Upright first 13 and 6, which would leave 60/58, lying first 11 and 7.
        x = picture("311/260/578", "");
        due("that of (0, 1), THE UPRIGHT SEAM being CUT", x.table(1, 1, 0), 10018);
        dueGreysOfTable(x, 1, 1, "20/58");
        checks.about("Terms 3: BEST: the ORDER of the least COST: lesser by 1");
        dueBest("UPRIGHT first", picture("724/465/412", ""), 1, 1, 10013, 1, 0b10, 0);
        dueBest("LYING first", picture("311/260/578", ""), 1, 1, 10018, 1, 0b01, 0);
        checks.about("Terms 3: So COST of TABLE is no less than that of BEST");
        x = picture("1313/1331/0103", "");
        due("TABLE is greater", x.table(2, 1, 0), 10014);
        due("than BEST", x.best(2, 1, 0), 10011);
    }

    private static void goAtItsLimits() {
        checks.about("Promise 18: The PICTURE becomes that of BEST of (a, b): COST and 10000, added: down to 2");
        // Four columns of 5 have no gap when they are cut, one has 2 in each row to a 7 at its right, one to its left.
        SeamPictures x = picture(rows("55775555", 1, 8), rows("gg..gggg", 1, 8));
        due("go(6, 0)", x.go(6, 0), 10000 - 4800 + 16 + 16);
        duePicture("go(6, 0)", x, rows("7", 2, 8), rows(".", 2, 8));
        due("go(1, 0) of two", x.go(1, 0), OUTSIDE);
        due("go(0, 6)", x.go(0, 6), 10000);
        dueSize("go(0, 6)", x, 2, 2);
        due("go(0, 1) of two", x.go(0, 1), OUTSIDE);
        due("go(0, 0) of two by two", x.go(0, 0), 10000);
        x = picture(rows("0", 8, 8), rows("k", 8, 8));
        due("go(3, 3)", x.go(3, 3), 13900);
        duePicture("go(3, 3)", x, rows("0", 5, 5), rows("k", 5, 5));
        due("go(4, 3)", x.go(4, 3), OUTSIDE);
        due("go(3, 3) again", x.go(3, 3), 10000 + 100 * (25 - 4));
        duePicture("go(3, 3) again", x, "00/00", "kk/kk");
    }
}
