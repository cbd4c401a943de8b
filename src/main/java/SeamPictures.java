/**
 * Seams out of pictures: a picture of grey dots is made narrower, lower, wider or higher by the
 * seams in which least is seen. ../shared/DOC.md says what each call answers.
 *
 * <p>All room is taken in the constructor; no call makes an object or an array.
 */
public final class SeamPictures {
    public static final int UNKNOWN = -1, OUTSIDE = -2, STATE = -3, FULL = -4, NO = -5, NONE = -6, FAULT = -7;

    private static final int UPRIGHT = 0;
    private static final int LYING = 1;
    private static final int LEAST_SIDE = 2;
    private static final int MOST_SIDE = 8;
    private static final int FIRST_SIDE = 4;
    private static final int MOST_GREY = 9;
    private static final int KEPT = 1;
    private static final int GOING = 2;
    private static final int MARK_EXTRA = 100;
    private static final int MOST_SEAMS = 6;
    private static final int IMAGES = 2;
    // Added to answers that may be below 0, so that none of them looks like a refusal.
    private static final int WEIGHT_BASE = 1000;
    private static final int COST_BASE = 10000;

    private final Picture picture;
    private final Seam found;
    private final Pad pad;
    private final OrderSearch search;
    private final CostTable costTable;
    private final Picture[] images;
    private final boolean[] imageKept;

    public SeamPictures() {
        picture = new Picture();
        found = new Seam();
        pad = new Pad();
        search = new OrderSearch();
        costTable = new CostTable();
        images = new Picture[IMAGES];
        for (int k = 0; k < IMAGES; k++) {
            images[k] = new Picture();
        }
        imageKept = new boolean[IMAGES];
    }

    // ---- 1 pictures

    public int size(int wide, int high) {
        if (!isSide(wide) || !isSide(high)) {
            return OUTSIDE;
        }
        int was = 10 * picture.wide + picture.high;
        picture.blank(wide, high);
        return was;
    }

    public int grey(int x, int y, int v) {
        if (!picture.hasDot(x, y)) {
            return UNKNOWN;
        }
        if (v < 0 || v > MOST_GREY) {
            return OUTSIDE;
        }
        return picture.changeGrey(x, y, v);
    }

    public int mark(int x, int y, int v) {
        if (!picture.hasDot(x, y)) {
            return UNKNOWN;
        }
        if (v < 0 || v > GOING) {
            return OUTSIDE;
        }
        return picture.changeMark(x, y, v);
    }

    public int rule(int v) {
        if (!isBit(v)) {
            return OUTSIDE;
        }
        int was = picture.law;
        picture.law = v;
        return was;
    }

    public int dot(int x, int y, int what) {
        if (!picture.hasDot(x, y)) {
            return UNKNOWN;
        }
        switch (what) {
            case 0:
                return picture.greyAt(UPRIGHT, y, x);
            case 1:
                return picture.markAt(UPRIGHT, y, x);
            case 2:
                return picture.edgeAt(x, y);
            case 3:
                return picture.weightAt(x, y) + WEIGHT_BASE;
            default:
                return OUTSIDE;
        }
    }

    public int say(int sign) {
        if (sign < Pad.FIRST_SIGN || sign > Pad.LAST_SIGN) {
            return OUTSIDE;
        }
        if (pad.isFull()) {
            return FULL;
        }
        return pad.append(sign);
    }

    public int wipe() {
        return pad.clear();
    }

    public int fault(int how) {
        if (!isBit(how)) {
            return OUTSIDE;
        }
        return pad.firstFault(how, picture.wide, picture.high);
    }

    public int lay(int how) {
        if (!isBit(how)) {
            return OUTSIDE;
        }
        if (pad.firstFault(how, picture.wide, picture.high) != NONE) {
            return FAULT;
        }
        int changed = pad.layOn(picture, how);
        pad.clear();
        return changed;
    }

    // ---- 2 seams

    public int seam(int way, int i) {
        if (!isBit(way) || i < -1) {
            return OUTSIDE;
        }
        if (i >= picture.lines(way)) {
            return NONE;
        }
        found.findLeast(picture, way);
        return i < 0 ? found.total + COST_BASE : found.places[i];
    }

    public int cost(int way, int number) {
        if (!isBit(way) || number < 0) {
            return OUTSIDE;
        }
        if (!found.readNumber(picture, way, number)) {
            return NO;
        }
        return found.total + COST_BASE;
    }

    public int cut(int way) {
        if (!isBit(way)) {
            return OUTSIDE;
        }
        if (picture.breadth(way) <= LEAST_SIDE) {
            return STATE;
        }
        found.findLeast(picture, way);
        picture.takeOut(found);
        return found.total + COST_BASE;
    }

    public int add(int way) {
        if (!isBit(way)) {
            return OUTSIDE;
        }
        if (picture.breadth(way) >= MOST_SIDE) {
            return STATE;
        }
        found.findLeast(picture, way);
        picture.putIn(found);
        return found.total + COST_BASE;
    }

    public int least(int way, int i) {
        if (!isBit(way)) {
            return OUTSIDE;
        }
        if (i < 0 || i >= picture.lines(way)) {
            return UNKNOWN;
        }
        return way == UPRIGHT ? picture.lightestInRow(i) : picture.lightestInColumn(i);
    }

    // ---- 3 both ways

    public int best(int a, int b, int what) {
        if (!canReach(a, b) || what < 0 || what > 3) {
            return OUTSIDE;
        }
        search.findBest(picture, a, b);
        switch (what) {
            case 0:
                return search.bestCost + COST_BASE;
            case 1:
                return search.ordersAtBest;
            case 2:
                return search.bestOrder;
            default:
                return search.bestKeptCut;
        }
    }

    public int table(int a, int b, int what) {
        if (!canReach(a, b) || what != 0 && (what < 10 || what > 89)) {
            return OUTSIDE;
        }
        int x = what / 10 - 1;
        int y = what % 10;
        if (what != 0 && (x >= picture.wide - a || y >= picture.high - b)) {
            return NONE;
        }
        costTable.fillTo(picture, a, b);
        return what == 0 ? costTable.costs[b] + COST_BASE : costTable.row[b].greyAt(UPRIGHT, y, x);
    }

    public int go(int a, int b) {
        if (!canReach(a, b)) {
            return OUTSIDE;
        }
        search.findBest(picture, a, b);
        for (int i = 0; i < a + b; i++) {
            found.findLeast(picture, search.bestOrder >> i & 1);
            picture.takeOut(found);
        }
        return search.bestCost + COST_BASE;
    }

    // ---- 4 images

    public int image(int k) {
        if (k < 0 || k >= IMAGES) {
            return OUTSIDE;
        }
        images[k].copyFrom(picture);
        imageKept[k] = true;
        return 1;
    }

    public int restore(int k) {
        if (k < 0 || k >= IMAGES) {
            return OUTSIDE;
        }
        if (!imageKept[k]) {
            return STATE;
        }
        picture.copyFrom(images[k]);
        return 1;
    }

    public int count(int what) {
        switch (what) {
            case 0:
                return picture.wide;
            case 1:
                return picture.high;
            case 2:
                return picture.sumOfGreys();
            case 3:
                return picture.dotsMarked(KEPT);
            case 4:
                return picture.dotsMarked(GOING);
            case 5:
                return picture.law;
            case 6:
                return pad.length;
            case 7:
                return imagesKept();
            default:
                return OUTSIDE;
        }
    }

    private int imagesKept() {
        int set = 0;
        for (int k = 0; k < IMAGES; k++) {
            if (imageKept[k]) {
                set |= 1 << k;
            }
        }
        return set;
    }

    private boolean canReach(int a, int b) {
        return a >= 0 && a <= picture.wide - LEAST_SIDE
                && b >= 0 && b <= picture.high - LEAST_SIDE
                && a + b <= MOST_SEAMS;
    }

    private static boolean isSide(int n) {
        return n >= LEAST_SIDE && n <= MOST_SIDE;
    }

    private static boolean isBit(int n) {
        return n == 0 || n == 1;
    }

    /**
     * The dots, and the rule by which their seams are weighed.
     *
     * <p>So that both ways of seams are one piece of code, dots are told by a way, a line and a
     * place: a seam of that way has one place in each line. For UPRIGHT the lines are rows (y) and
     * the places x; for LYING the lines are columns (x) and the places y. 'Before' and 'after' are
     * neighbours in the same line; 'ahead' is the line that a seam comes from.
     */
    private static final class Picture {
        int wide;
        int high;
        int law;
        private final int[] greys;
        private final int[] marks;

        Picture() {
            wide = FIRST_SIDE;
            high = FIRST_SIDE;
            greys = new int[MOST_SIDE * MOST_SIDE];
            marks = new int[MOST_SIDE * MOST_SIDE];
        }

        void blank(int newWide, int newHigh) {
            wide = newWide;
            high = newHigh;
            for (int i = 0; i < greys.length; i++) {
                greys[i] = 0;
                marks[i] = 0;
            }
        }

        void copyFrom(Picture other) {
            wide = other.wide;
            high = other.high;
            law = other.law;
            for (int i = 0; i < greys.length; i++) {
                greys[i] = other.greys[i];
                marks[i] = other.marks[i];
            }
        }

        boolean hasDot(int x, int y) {
            return x >= 0 && x < wide && y >= 0 && y < high;
        }

        int lines(int way) {
            return way == UPRIGHT ? high : wide;
        }

        int breadth(int way) {
            return way == UPRIGHT ? wide : high;
        }

        private static int index(int way, int line, int place) {
            return way == UPRIGHT ? line * MOST_SIDE + place : place * MOST_SIDE + line;
        }

        int changeGrey(int x, int y, int v) {
            int i = index(UPRIGHT, y, x);
            int was = greys[i];
            greys[i] = v;
            return was;
        }

        int changeMark(int x, int y, int v) {
            int i = index(UPRIGHT, y, x);
            int was = marks[i];
            marks[i] = v;
            return was;
        }

        int greyAt(int way, int line, int place) {
            return greys[index(way, line, place)];
        }

        int markAt(int way, int line, int place) {
            return marks[index(way, line, place)];
        }

        private int extraAt(int way, int line, int place) {
            int m = marks[index(way, line, place)];
            return m == KEPT ? MARK_EXTRA : m == GOING ? -MARK_EXTRA : 0;
        }

        /** How far the neighbours of a dot in its line are from one another. */
        private int gapAt(int way, int line, int place) {
            int before = greys[index(way, line, Math.max(place - 1, 0))];
            int after = greys[index(way, line, Math.min(place + 1, breadth(way) - 1))];
            return Math.abs(before - after);
        }

        int edgeAt(int x, int y) {
            return gapAt(UPRIGHT, y, x) + gapAt(LYING, x, y);
        }

        int weightAt(int x, int y) {
            return edgeAt(x, y) + extraAt(UPRIGHT, y, x);
        }

        /** What a dot costs a seam, wherever the seam comes from. */
        int standingCost(int way, int line, int place) {
            int sum = extraAt(way, line, place) + gapAt(way, line, place);
            if (law == 0) {
                // Neighbours in the line for the other way are those ahead and behind for this one.
                sum += gapAt(1 - way, place, line);
            }
            return sum;
        }

        /** What a dot costs besides, if the seam comes to it from this place of the line ahead. */
        int turningCost(int way, int line, int place, int from) {
            if (law == 0 || from == place) {
                return 0;
            }
            int side = from < place ? Math.max(place - 1, 0) : Math.min(place + 1, breadth(way) - 1);
            int ahead = Math.max(line - 1, 0);
            return Math.abs(greys[index(way, ahead, place)] - greys[index(way, line, side)]);
        }

        int lightestInRow(int y) {
            int lightest = 0;
            for (int x = 1; x < wide; x++) {
                if (weightAt(x, y) < weightAt(lightest, y)) {
                    lightest = x;
                }
            }
            return lightest;
        }

        int lightestInColumn(int x) {
            int lightest = 0;
            for (int y = 1; y < high; y++) {
                if (weightAt(x, y) < weightAt(x, lightest)) {
                    lightest = y;
                }
            }
            return lightest;
        }

        int sumOfGreys() {
            int sum = 0;
            for (int y = 0; y < high; y++) {
                for (int x = 0; x < wide; x++) {
                    sum += greyAt(UPRIGHT, y, x);
                }
            }
            return sum;
        }

        int dotsMarked(int m) {
            int dots = 0;
            for (int y = 0; y < high; y++) {
                for (int x = 0; x < wide; x++) {
                    if (markAt(UPRIGHT, y, x) == m) {
                        dots++;
                    }
                }
            }
            return dots;
        }

        int keptDotsOf(Seam seam) {
            int dots = 0;
            for (int line = 0; line < lines(seam.way); line++) {
                if (markAt(seam.way, line, seam.places[line]) == KEPT) {
                    dots++;
                }
            }
            return dots;
        }

        /** The picture must be broader than LEAST_SIDE in the way of the seam. */
        void takeOut(Seam seam) {
            int last = breadth(seam.way) - 1;
            for (int line = 0; line < lines(seam.way); line++) {
                for (int place = seam.places[line]; place < last; place++) {
                    moveDot(seam.way, line, place + 1, place);
                }
            }
            broaden(seam.way, -1);
        }

        /** The picture must be less broad than MOST_SIDE in the way of the seam. */
        void putIn(Seam seam) {
            int end = breadth(seam.way);
            for (int line = 0; line < lines(seam.way); line++) {
                int doubled = seam.places[line];
                int after = Math.min(doubled + 1, end - 1);
                int between = (greyAt(seam.way, line, doubled) + greyAt(seam.way, line, after)) / 2;
                for (int place = end; place > doubled + 1; place--) {
                    moveDot(seam.way, line, place - 1, place);
                }
                int i = index(seam.way, line, doubled + 1);
                greys[i] = between;
                marks[i] = 0;
            }
            broaden(seam.way, 1);
        }

        private void moveDot(int way, int line, int from, int to) {
            int source = index(way, line, from);
            int target = index(way, line, to);
            greys[target] = greys[source];
            marks[target] = marks[source];
        }

        private void broaden(int way, int by) {
            if (way == UPRIGHT) {
                wide += by;
            } else {
                high += by;
            }
        }
    }

    /** A seam of a picture, and the room to find the one that costs least. */
    private static final class Seam {
        int way;
        int total;
        final int[] places;
        // For each dot: the least cost from it to the end of a seam, without what it costs to come
        // to it, and the place to which that seam goes on in the next line.
        private final int[] costToEnd;
        private final int[] goesOnAt;

        Seam() {
            places = new int[MOST_SIDE];
            costToEnd = new int[MOST_SIDE * MOST_SIDE];
            goesOnAt = new int[MOST_SIDE * MOST_SIDE];
        }

        /** Goes from the last line to the first, so that the choice among equals can be made from the first on. */
        void findLeast(Picture picture, int wayOfSeam) {
            way = wayOfSeam;
            int lines = picture.lines(way);
            int breadth = picture.breadth(way);
            for (int line = lines - 1; line >= 0; line--) {
                for (int place = 0; place < breadth; place++) {
                    weighDot(picture, line, place, line == lines - 1);
                }
            }
            int place = leastStart(breadth);
            total = costToEnd[place];
            for (int line = 0; line < lines; line++) {
                places[line] = place;
                place = goesOnAt[line * MOST_SIDE + place];
            }
        }

        private void weighDot(Picture picture, int line, int place, boolean isLast) {
            int i = line * MOST_SIDE + place;
            costToEnd[i] = picture.standingCost(way, line, place);
            goesOnAt[i] = place;
            if (!isLast) {
                goOnFrom(picture, line, place);
            }
        }

        private void goOnFrom(Picture picture, int line, int place) {
            int first = Math.max(place - 1, 0);
            int last = Math.min(place + 1, picture.breadth(way) - 1);
            int leastNext = first;
            int leastCost = 0;
            for (int next = first; next <= last; next++) {
                int onward = picture.turningCost(way, line + 1, next, place)
                        + costToEnd[(line + 1) * MOST_SIDE + next];
                if (next == first || onward < leastCost) {
                    leastNext = next;
                    leastCost = onward;
                }
            }
            int i = line * MOST_SIDE + place;
            goesOnAt[i] = leastNext;
            costToEnd[i] += leastCost;
        }

        private int leastStart(int breadth) {
            int start = 0;
            for (int place = 1; place < breadth; place++) {
                if (costToEnd[place] < costToEnd[start]) {
                    start = place;
                }
            }
            return start;
        }

        /** Whether the figures of a number are a seam of the picture; this is that seam then. */
        boolean readNumber(Picture picture, int wayOfSeam, int number) {
            way = wayOfSeam;
            int lines = picture.lines(way);
            int left = number;
            for (int line = lines - 1; line >= 0; line--) {
                places[line] = left % 10;
                left /= 10;
            }
            if (left != 0 || !hangsTogether(lines, picture.breadth(way))) {
                return false;
            }
            total = sumOfCosts(picture, lines);
            return true;
        }

        private boolean hangsTogether(int lines, int breadth) {
            for (int line = 0; line < lines; line++) {
                if (places[line] >= breadth) {
                    return false;
                }
                if (line > 0 && Math.abs(places[line] - places[line - 1]) > 1) {
                    return false;
                }
            }
            return true;
        }

        private int sumOfCosts(Picture picture, int lines) {
            int sum = 0;
            for (int line = 0; line < lines; line++) {
                sum += picture.standingCost(way, line, places[line]);
                if (line > 0) {
                    sum += picture.turningCost(way, line, places[line], places[line - 1]);
                }
            }
            return sum;
        }
    }

    /** The signs that are said, to be laid on a picture as its greys or its marks. */
    private static final class Pad {
        static final int FIRST_SIGN = 33;
        static final int LAST_SIGN = 126;
        private static final int MOST_SIGNS = 80;
        private static final int AS_GREYS = 0;

        int length;
        private final int[] signs;

        Pad() {
            signs = new int[MOST_SIGNS];
        }

        boolean isFull() {
            return length >= MOST_SIGNS;
        }

        /** The pad must not be full. */
        int append(int sign) {
            signs[length] = sign;
            length++;
            return length;
        }

        int clear() {
            int was = length;
            length = 0;
            return was;
        }

        int firstFault(int how, int wide, int high) {
            int due = high * (wide + 1) - 1;
            for (int i = 0; i < length; i++) {
                if (i >= due || !canStand(signs[i], how, i % (wide + 1) == wide)) {
                    return i;
                }
            }
            return length < due ? length : NONE;
        }

        private static boolean canStand(int sign, int how, boolean betweenRows) {
            return betweenRows ? sign == '/' : valueOf(sign, how) >= 0;
        }

        /** The grey or the mark that a sign means; NONE, if it means none. */
        private static int valueOf(int sign, int how) {
            if (how == AS_GREYS) {
                return sign >= '0' && sign <= '9' ? sign - '0' : NONE;
            }
            switch (sign) {
                case '.':
                    return 0;
                case 'k':
                    return KEPT;
                case 'g':
                    return GOING;
                default:
                    return NONE;
            }
        }

        /** The pad must have no fault for this picture; answers how many dots changed. */
        int layOn(Picture picture, int how) {
            int changed = 0;
            for (int y = 0; y < picture.high; y++) {
                for (int x = 0; x < picture.wide; x++) {
                    int v = valueOf(signs[y * (picture.wide + 1) + x], how);
                    int was = how == AS_GREYS ? picture.changeGrey(x, y, v) : picture.changeMark(x, y, v);
                    if (was != v) {
                        changed++;
                    }
                }
            }
            return changed;
        }
    }

    /** Finds the order of upright and lying seams that costs least, by trying them all. */
    private static final class OrderSearch {
        int bestCost;
        int bestOrder;
        int bestKeptCut;
        int ordersAtBest;
        // The picture after as many seams of the order that is being tried.
        private final Picture[] stages;
        private final Seam seam;

        OrderSearch() {
            stages = new Picture[MOST_SEAMS + 1];
            for (int i = 0; i <= MOST_SEAMS; i++) {
                stages[i] = new Picture();
            }
            seam = new Seam();
        }

        void findBest(Picture start, int a, int b) {
            ordersAtBest = 0;
            stages[0].copyFrom(start);
            tryOrders(0, a, b, 0, 0, 0);
        }

        /** Tries UPRIGHT first at each seam, so that of equal orders the one that is due comes first. */
        private void tryOrders(int depth, int uprights, int lyings, int order, int cost, int keptCut) {
            if (uprights == 0 && lyings == 0) {
                compare(order, cost, keptCut);
                return;
            }
            if (depth >= MOST_SEAMS) {
                return;
            }
            Picture next = stages[depth + 1];
            for (int way = UPRIGHT; way <= LYING; way++) {
                if ((way == UPRIGHT ? uprights : lyings) > 0) {
                    next.copyFrom(stages[depth]);
                    seam.findLeast(next, way);
                    int keptNow = keptCut + next.keptDotsOf(seam);
                    next.takeOut(seam);
                    tryOrders(depth + 1, uprights - (1 - way), lyings - way,
                            order | way << depth, cost + seam.total, keptNow);
                }
            }
        }

        private void compare(int order, int cost, int keptCut) {
            if (ordersAtBest > 0 && cost == bestCost) {
                ordersAtBest++;
            } else if (ordersAtBest == 0 || cost < bestCost) {
                bestCost = cost;
                bestOrder = order;
                bestKeptCut = keptCut;
                ordersAtBest = 1;
            }
        }
    }

    /** The table of (i, j), of which one row, that of the last i, is held at a time. */
    private static final class CostTable {
        final Picture[] row;
        final int[] costs;
        private final Seam upright;
        private final Seam lying;

        CostTable() {
            row = new Picture[MOST_SEAMS + 1];
            for (int j = 0; j <= MOST_SEAMS; j++) {
                row[j] = new Picture();
            }
            costs = new int[MOST_SEAMS + 1];
            upright = new Seam();
            lying = new Seam();
        }

        void fillTo(Picture start, int a, int b) {
            row[0].copyFrom(start);
            costs[0] = 0;
            for (int j = 1; j <= b; j++) {
                lying.findLeast(row[j - 1], LYING);
                takeLying(j);
            }
            for (int i = 1; i <= a; i++) {
                upright.findLeast(row[0], UPRIGHT);
                takeUpright(0);
                for (int j = 1; j <= b; j++) {
                    takeCheaper(j);
                }
            }
        }

        private void takeCheaper(int j) {
            upright.findLeast(row[j], UPRIGHT);
            lying.findLeast(row[j - 1], LYING);
            if (costs[j - 1] + lying.total < costs[j] + upright.total) {
                takeLying(j);
            } else {
                takeUpright(j);
            }
        }

        private void takeUpright(int j) {
            row[j].takeOut(upright);
            costs[j] += upright.total;
        }

        private void takeLying(int j) {
            row[j].copyFrom(row[j - 1]);
            row[j].takeOut(lying);
            costs[j] = costs[j - 1] + lying.total;
        }
    }
}
