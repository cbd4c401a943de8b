import java.util.ArrayList;
import java.util.List;

/**
 * The document once more, as plainly as can be, to be compared with SeamPictures: seams are found by
 * trying all of them in the order of their x, lying seams by mirroring the picture along its
 * diagonal, orders by writing all of them down, the table by its definition.
 */
final class SlowPictures {
    private static final int UNKNOWN = -1, OUTSIDE = -2, STATE = -3, FULL = -4, NO = -5, NONE = -6, FAULT = -7;

    /** grey[y][x], mark[y][x]; never changed once it is made, but by grey, mark and lay of the class around it. */
    private record Dots(int[][] grey, int[][] mark) {
        static Dots blank(int wide, int high) {
            return new Dots(new int[high][wide], new int[high][wide]);
        }

        int wide() {
            return grey[0].length;
        }

        int high() {
            return grey.length;
        }

        boolean has(int x, int y) {
            return y >= 0 && y < grey.length && x >= 0 && x < grey[y].length;
        }

        /** The grey of the neighbour (x + dx, y + dy) of (x, y), or of that dot itself. */
        int near(int x, int y, int dx, int dy) {
            return has(x + dx, y + dy) ? grey[y + dy][x + dx] : grey[y][x];
        }

        int edge(int x, int y) {
            return Math.abs(near(x, y, -1, 0) - near(x, y, 1, 0)) + Math.abs(near(x, y, 0, -1) - near(x, y, 0, 1));
        }

        int extra(int x, int y) {
            return new int[] {0, 100, -100}[mark[y][x]];
        }

        Dots mirrored() {
            Dots m = blank(high(), wide());
            for (int y = 0; y < high(); y++) {
                for (int x = 0; x < wide(); x++) {
                    m.grey[x][y] = grey[y][x];
                    m.mark[x][y] = mark[y][x];
                }
            }
            return m;
        }

        Dots copy() {
            return mirrored().mirrored();
        }

        Dots without(int[] seam) {
            Dots d = blank(wide() - 1, high());
            for (int y = 0; y < high(); y++) {
                int to = 0;
                for (int x = 0; x < wide(); x++) {
                    if (x != seam[y]) {
                        d.grey[y][to] = grey[y][x];
                        d.mark[y][to] = mark[y][x];
                        to++;
                    }
                }
            }
            return d;
        }

        Dots with(int[] seam) {
            Dots d = blank(wide() + 1, high());
            for (int y = 0; y < high(); y++) {
                int to = 0;
                for (int x = 0; x < wide(); x++) {
                    d.grey[y][to] = grey[y][x];
                    d.mark[y][to] = mark[y][x];
                    to++;
                    if (x == seam[y]) {
                        d.grey[y][to] = (grey[y][x] + near(x, y, 1, 0)) / 2;
                        to++;
                    }
                }
            }
            return d;
        }
    }

    private record Kept(Dots dots, int rule) {
    }

    private record Found(int[] seam, int cost) {
    }

    /** What comes of a row of cuts: the dots, what all cuts cost, and how many kept dots went. */
    private record Outcome(Dots dots, int cost, int keptGone) {
    }

    private Dots dots = Dots.blank(4, 4);
    private int rule = 0;
    private String pad = "";
    private final Kept[] images = new Kept[2];

    // ---- upright seams

    private static int costOfDot(Dots d, int rule, int y, int x, int ahead) {
        int cost = d.extra(x, y);
        if (rule == 0) {
            return cost + d.edge(x, y);
        }
        cost += Math.abs(d.near(x, y, -1, 0) - d.near(x, y, 1, 0));
        if (y > 0 && ahead < x) {
            cost += Math.abs(d.near(x, y, 0, -1) - d.near(x, y, -1, 0));
        }
        if (y > 0 && ahead > x) {
            cost += Math.abs(d.near(x, y, 0, -1) - d.near(x, y, 1, 0));
        }
        return cost;
    }

    private static int costOfSeam(Dots d, int rule, int[] seam) {
        int cost = 0;
        for (int y = 0; y < seam.length; y++) {
            cost += costOfDot(d, rule, y, seam[y], y == 0 ? seam[y] : seam[y - 1]);
        }
        return cost;
    }

    private static Found theSeam(Dots d, int rule) {
        int[][][] costs = new int[d.high()][d.wide()][3];
        for (int y = 0; y < d.high(); y++) {
            for (int x = 0; x < d.wide(); x++) {
                for (int turn = -1; turn <= 1; turn++) {
                    costs[y][x][turn + 1] = costOfDot(d, rule, y, x, x + turn);
                }
            }
        }
        return leastOf(costs, new int[d.high()], 0, 0, null);
    }

    /** All seams that begin with the first y dots of this one, from the least x on; the first of the least wins. */
    private static Found leastOf(int[][][] costs, int[] seam, int y, int cost, Found least) {
        if (y == seam.length) {
            return least == null || cost < least.cost() ? new Found(seam.clone(), cost) : least;
        }
        Found best = least;
        for (int x = 0; x < costs[y].length; x++) {
            int turn = y == 0 ? 0 : seam[y - 1] - x;
            if (Math.abs(turn) <= 1) {
                seam[y] = x;
                best = leastOf(costs, seam, y + 1, cost + costs[y][x][turn + 1], best);
            }
        }
        return best;
    }

    // ---- both ways

    private static Dots turned(Dots d, int way) {
        return way == 0 ? d : d.mirrored();
    }

    private Found theSeam(Dots d, int rule, int way) {
        return theSeam(turned(d, way), rule);
    }

    private static Outcome cutOne(Outcome from, int rule, int way) {
        Dots d = turned(from.dots(), way);
        Found f = theSeam(d, rule);
        int kept = 0;
        for (int y = 0; y < f.seam().length; y++) {
            kept += d.mark()[y][f.seam()[y]] == 1 ? 1 : 0;
        }
        return new Outcome(turned(d.without(f.seam()), way), from.cost() + f.cost(), from.keptGone() + kept);
    }

    /** All orders as texts of u and l, sorted so that u comes first. */
    private static List<String> orders(int a, int b) {
        List<String> all = new ArrayList<>();
        if (a == 0 && b == 0) {
            all.add("");
        }
        if (a > 0) {
            for (String rest : orders(a - 1, b)) {
                all.add("u" + rest);
            }
        }
        if (b > 0) {
            for (String rest : orders(a, b - 1)) {
                all.add("l" + rest);
            }
        }
        return all;
    }

    private Outcome follow(String order) {
        Outcome o = new Outcome(dots, 0, 0);
        for (char c : order.toCharArray()) {
            o = cutOne(o, rule, c == 'u' ? 0 : 1);
        }
        return o;
    }

    private String bestOrder(int a, int b) {
        String best = null;
        int cost = 0;
        for (String order : orders(a, b)) {
            int c = follow(order).cost();
            if (best == null || c < cost) {
                best = order;
                cost = c;
            }
        }
        return best;
    }

    private Outcome tableAt(int i, int j) {
        if (i == 0 && j == 0) {
            return new Outcome(dots, 0, 0);
        }
        Outcome byUpright = i > 0 ? cutOne(tableAt(i - 1, j), rule, 0) : null;
        Outcome byLying = j > 0 ? cutOne(tableAt(i, j - 1), rule, 1) : null;
        if (byUpright == null || byLying == null) {
            return byUpright == null ? byLying : byUpright;
        }
        return byUpright.cost() <= byLying.cost() ? byUpright : byLying;
    }

    private boolean outOfReach(int a, int b) {
        return a < 0 || a > dots.wide() - 2 || b < 0 || b > dots.high() - 2 || a + b > 6;
    }

    // ---- the face

    int size(int wide, int high) {
        if (wide < 2 || wide > 8 || high < 2 || high > 8) {
            return OUTSIDE;
        }
        int was = 10 * dots.wide() + dots.high();
        dots = Dots.blank(wide, high);
        return was;
    }

    int grey(int x, int y, int v) {
        if (!dots.has(x, y)) {
            return UNKNOWN;
        }
        if (v < 0 || v > 9) {
            return OUTSIDE;
        }
        int was = dots.grey()[y][x];
        dots.grey()[y][x] = v;
        return was;
    }

    int mark(int x, int y, int v) {
        if (!dots.has(x, y)) {
            return UNKNOWN;
        }
        if (v < 0 || v > 2) {
            return OUTSIDE;
        }
        int was = dots.mark()[y][x];
        dots.mark()[y][x] = v;
        return was;
    }

    int rule(int v) {
        if (v < 0 || v > 1) {
            return OUTSIDE;
        }
        int was = rule;
        rule = v;
        return was;
    }

    int dot(int x, int y, int what) {
        if (!dots.has(x, y)) {
            return UNKNOWN;
        }
        return switch (what) {
            case 0 -> dots.grey()[y][x];
            case 1 -> dots.mark()[y][x];
            case 2 -> dots.edge(x, y);
            case 3 -> dots.edge(x, y) + dots.extra(x, y) + 1000;
            default -> OUTSIDE;
        };
    }

    int say(int sign) {
        if (sign < 33 || sign > 126) {
            return OUTSIDE;
        }
        if (pad.length() == 80) {
            return FULL;
        }
        pad += (char) sign;
        return pad.length();
    }

    int wipe() {
        int was = pad.length();
        pad = "";
        return was;
    }

    int fault(int how) {
        if (how < 0 || how > 1) {
            return OUTSIDE;
        }
        String line = (how == 0 ? "9" : "k").repeat(dots.wide());
        String form = (line + "/").repeat(dots.high() - 1) + line;
        for (int i = 0; i < pad.length(); i++) {
            if (i >= form.length()) {
                return i;
            }
            char due = form.charAt(i);
            String fits = due == '/' ? "/" : due == '9' ? "0123456789" : ".kg";
            if (fits.indexOf(pad.charAt(i)) < 0) {
                return i;
            }
        }
        return pad.length() < form.length() ? pad.length() : NONE;
    }

    int lay(int how) {
        int fault = fault(how);
        if (fault == OUTSIDE) {
            return OUTSIDE;
        }
        if (fault != NONE) {
            return FAULT;
        }
        String[] rows = pad.split("/");
        pad = "";
        int changed = 0;
        for (int y = 0; y < rows.length; y++) {
            for (int x = 0; x < rows[y].length(); x++) {
                int[] row = how == 0 ? dots.grey()[y] : dots.mark()[y];
                int v = (how == 0 ? "0123456789" : ".kg").indexOf(rows[y].charAt(x));
                changed += row[x] == v ? 0 : 1;
                row[x] = v;
            }
        }
        return changed;
    }

    int seam(int way, int i) {
        if (way < 0 || way > 1 || i < -1) {
            return OUTSIDE;
        }
        Found f = theSeam(dots, rule, way);
        if (i == -1) {
            return f.cost() + 10000;
        }
        return i < f.seam().length ? f.seam()[i] : NONE;
    }

    int cost(int way, int number) {
        if (way < 0 || way > 1 || number < 0) {
            return OUTSIDE;
        }
        Dots d = turned(dots, way);
        String figures = String.valueOf(number);
        if (figures.length() > d.high()) {
            return NO;
        }
        figures = "0".repeat(d.high() - figures.length()) + figures;
        int[] seam = new int[d.high()];
        for (int y = 0; y < seam.length; y++) {
            seam[y] = figures.charAt(y) - '0';
            if (seam[y] >= d.wide() || y > 0 && Math.abs(seam[y] - seam[y - 1]) > 1) {
                return NO;
            }
        }
        return costOfSeam(d, rule, seam) + 10000;
    }

    int cut(int way) {
        if (way < 0 || way > 1) {
            return OUTSIDE;
        }
        if (turned(dots, way).wide() == 2) {
            return STATE;
        }
        Outcome o = cutOne(new Outcome(dots, 0, 0), rule, way);
        dots = o.dots();
        return o.cost() + 10000;
    }

    int add(int way) {
        if (way < 0 || way > 1) {
            return OUTSIDE;
        }
        Dots d = turned(dots, way);
        if (d.wide() == 8) {
            return STATE;
        }
        Found f = theSeam(d, rule);
        dots = turned(d.with(f.seam()), way);
        return f.cost() + 10000;
    }

    int least(int way, int i) {
        if (way < 0 || way > 1) {
            return OUTSIDE;
        }
        Dots d = turned(dots, way);
        if (i < 0 || i >= d.high()) {
            return UNKNOWN;
        }
        int least = 0;
        for (int x = 1; x < d.wide(); x++) {
            if (d.edge(x, i) + d.extra(x, i) < d.edge(least, i) + d.extra(least, i)) {
                least = x;
            }
        }
        return least;
    }

    int best(int a, int b, int what) {
        if (outOfReach(a, b) || what < 0 || what > 3) {
            return OUTSIDE;
        }
        String order = bestOrder(a, b);
        Outcome o = follow(order);
        int equals = 0;
        int number = 0;
        for (String other : what == 1 ? orders(a, b) : List.<String>of()) {
            equals += follow(other).cost() == o.cost() ? 1 : 0;
        }
        for (int i = 0; i < order.length(); i++) {
            number += order.charAt(i) == 'l' ? 1 << i : 0;
        }
        return new int[] {o.cost() + 10000, equals, number, o.keptGone()}[what];
    }

    int table(int a, int b, int what) {
        if (outOfReach(a, b) || what < 0 || what > 89 || what > 0 && what < 10) {
            return OUTSIDE;
        }
        Outcome o = tableAt(a, b);
        if (what == 0) {
            return o.cost() + 10000;
        }
        int x = what / 10 - 1;
        int y = what % 10;
        return o.dots().has(x, y) ? o.dots().grey()[y][x] : NONE;
    }

    int go(int a, int b) {
        if (outOfReach(a, b)) {
            return OUTSIDE;
        }
        Outcome o = follow(bestOrder(a, b));
        dots = o.dots().copy();
        return o.cost() + 10000;
    }

    int image(int k) {
        if (k < 0 || k > 1) {
            return OUTSIDE;
        }
        images[k] = new Kept(dots.copy(), rule);
        return 1;
    }

    int restore(int k) {
        if (k < 0 || k > 1) {
            return OUTSIDE;
        }
        if (images[k] == null) {
            return STATE;
        }
        dots = images[k].dots().copy();
        rule = images[k].rule();
        return 1;
    }

    int count(int what) {
        int[] marks = new int[3];
        int greys = 0;
        for (int y = 0; y < dots.high(); y++) {
            for (int x = 0; x < dots.wide(); x++) {
                marks[dots.mark()[y][x]]++;
                greys += dots.grey()[y][x];
            }
        }
        int kept = (images[0] == null ? 0 : 1) + (images[1] == null ? 0 : 2);
        int[] answers = {dots.wide(), dots.high(), greys, marks[1], marks[2], rule, pad.length(), kept};
        return what < 0 || what >= answers.length ? OUTSIDE : answers[what];
    }
}
