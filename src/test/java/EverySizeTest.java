import java.util.Random;

/**
 * Every size of a picture by both rules, and on it every call at and one beyond each limit of its
 * numbers, with the answers of SlowPictures. Each object has less than 512 calls.
 */
public final class EverySizeTest {
    private static final Checks checks = new Checks();

    private final String of;
    private final int wide;
    private final int high;
    private final int rule;
    private final int[] greys = new int[64];
    private final int[] marks = new int[64];
    private SeamPictures x;
    private SlowPictures slow;

    private EverySizeTest(int wide, int high, int rule) {
        this.wide = wide;
        this.high = high;
        this.rule = rule;
        of = " of " + wide + " by " + high + ", rule " + rule;
        Random random = new Random(100 * wide + 10 * high + rule);
        for (int i = 0; i < 64; i++) {
            greys[i] = random.nextInt(10);
            marks[i] = Math.max(0, random.nextInt(8) - 5);
        }
    }

    public static void main(String[] args) {
        for (int wide = 2; wide <= 8; wide++) {
            for (int high = 2; high <= 8; high++) {
                for (int rule = 0; rule <= 1; rule++) {
                    new EverySizeTest(wide, high, rule).callAll();
                }
            }
        }
        checks.finish();
    }

    private void callAll() {
        seams();
        // Two of the four things that best tells at a time keep below 512 calls.
        bestAndTable(0);
        bestAndTable(1);
        greysOfTable();
        changes();
    }

    /** At most 130 calls. */
    private void make() {
        x = new SeamPictures();
        slow = new SlowPictures();
        due("size", x.size(wide, high), slow.size(wide, high));
        due("rule", x.rule(rule), slow.rule(rule));
        for (int y = 0; y < high; y++) {
            for (int i = 0; i < wide; i++) {
                int k = 8 * y + i;
                due("grey", x.grey(i, y, greys[k]), slow.grey(i, y, greys[k]));
                due("mark", x.mark(i, y, marks[k]), slow.mark(i, y, marks[k]));
            }
        }
    }

    private void due(String call, int got, int want) {
        checks.due(call + of, got, want);
    }

    private void seams() {
        make();
        for (int way = -1; way <= 2; way++) {
            for (int i = -2; i <= 9; i++) {
                due("seam(" + way + ", " + i + ")", x.seam(way, i), slow.seam(way, i));
                due("least(" + way + ", " + i + ")", x.least(way, i), slow.least(way, i));
            }
        }
        for (int y = -1; y <= high; y++) {
            for (int i = -1; i <= wide; i++) {
                for (int what = 2; what <= 3; what++) {
                    due("dot(" + i + ", " + y + ", " + what + ")", x.dot(i, y, what), slow.dot(i, y, what));
                }
            }
        }
    }

    private void bestAndTable(int first) {
        make();
        for (int a = -1; a <= wide - 1; a++) {
            for (int b = -1; b <= high - 1; b++) {
                for (int what = first; what <= 3; what += 2) {
                    due("best(" + a + ", " + b + ", " + what + ")", x.best(a, b, what), slow.best(a, b, what));
                }
                due("table(" + a + ", " + b + ", 0)", x.table(a, b, 0), slow.table(a, b, 0));
            }
        }
    }

    private void greysOfTable() {
        make();
        int a = Math.min(wide - 2, 2);
        int b = Math.min(high - 2, 2);
        for (int what = 9; what <= 90; what++) {
            due("table(" + a + ", " + b + ", " + what + ")", x.table(a, b, what), slow.table(a, b, what));
        }
    }

    private void changes() {
        for (int way = 0; way <= 1; way++) {
            make();
            due("cut(" + way + ")", x.cut(way), slow.cut(way));
            dueAll("cut(" + way + ")");
            make();
            due("add(" + way + ")", x.add(way), slow.add(way));
            dueAll("add(" + way + ")");
        }
        int a = Math.min(wide - 2, 3);
        int b = Math.min(high - 2, 3);
        make();
        due("go(" + a + ", " + b + ")", x.go(a, b), slow.go(a, b));
        dueAll("go(" + a + ", " + b + ")");
    }

    private void dueAll(String after) {
        for (int what = 0; what < 8; what++) {
            due(after + ", count(" + what + ")", x.count(what), slow.count(what));
        }
        for (int y = 0; y < slow.count(1); y++) {
            for (int i = 0; i < slow.count(0); i++) {
                due(after + ", GREY at (" + i + ", " + y + ")", x.dot(i, y, 0), slow.dot(i, y, 0));
                due(after + ", MARK at (" + i + ", " + y + ")", x.dot(i, y, 1), slow.dot(i, y, 1));
            }
        }
    }
}
