import java.util.Arrays;
import java.util.Random;

/**
 * Long runs of made-up calls, each on a new object, with every answer against that of SlowPictures.
 * The calls come from fixed seeds, so that each run of the test is the same.
 */
public final class ModelTest {
    private static final int RUNS = 2800;
    private static final int CALLS = 512;
    private static final int[] ODD = {-1000000, -2, -1, 8, 9, 10, 90, 2147483647, -2147483648};

    private final Checks checks;
    private final int run;
    private final Random random;
    private final SeamPictures x = new SeamPictures();
    private final SlowPictures slow = new SlowPictures();
    // Few greys and marks make many equals, so the choice among equals is looked at often.
    private final int greys;
    private final int marksInTen;
    // An object is promised for so many calls only.
    private int callsLeft = CALLS;

    private ModelTest(Checks checks, int run) {
        this.checks = checks;
        this.run = run;
        random = new Random(7919L * run + 1);
        greys = new int[] {1, 2, 3, 10}[run % 4];
        marksInTen = new int[] {0, 1, 4}[run % 3];
    }

    public static void main(String[] args) {
        Checks checks = new Checks();
        for (int run = 0; run < RUNS; run++) {
            new ModelTest(checks, run).callAll();
        }
        checks.finish();
    }

    private void callAll() {
        // A turn of say may need four calls; some turns make none, so turns are counted too.
        for (int turn = 0; turn < 4 * CALLS && callsLeft >= 4; turn++) {
            // Mostly a picture is laid first, so that what follows has something to tell.
            if (random.nextInt(25) == 0 && callsLeft > 170) {
                layPicture();
            } else {
                oneCall(random.nextInt(21));
            }
        }
    }

    private void layPicture() {
        int wide = 2 + random.nextInt(7);
        int high = 2 + random.nextInt(7);
        due("size", slow.size(wide, high), x.size(wide, high), wide, high);
        due("wipe", slow.wipe(), x.wipe());
        layAll(0, wide, high);
        layAll(1, wide, high);
    }

    private void layAll(int how, int wide, int high) {
        for (int y = 0; y < high; y++) {
            for (int i = 0; i < wide; i++) {
                say(how == 0 ? '0' + random.nextInt(greys) : markSign());
            }
            if (y < high - 1) {
                say('/');
            }
        }
        due("fault", slow.fault(how), x.fault(how), how);
        due("lay", slow.lay(how), x.lay(how), how);
    }

    private int markSign() {
        return random.nextInt(10) < marksInTen ? "kg".charAt(random.nextInt(2)) : '.';
    }

    private void say(int sign) {
        due("say", slow.say(sign), x.say(sign), sign);
    }

    private void due(String name, int want, int got, int... args) {
        callsLeft--;
        checks.due("run " + run + ": " + name + Arrays.toString(args), got, want);
    }

    /** A number from 0 to the last that is right, or now and then one beside it. */
    private int number(int last) {
        int kind = random.nextInt(40);
        if (kind == 0) {
            return ODD[random.nextInt(ODD.length)];
        }
        return kind == 1 ? last + 1 : kind == 2 ? -1 : random.nextInt(last + 1);
    }

    private int someX() {
        return number(slow.count(0) - 1);
    }

    private int someY() {
        return number(slow.count(1) - 1);
    }

    private int seamNumber(int way) {
        int lines = slow.count(way == 0 ? 1 : 0);
        int breadth = slow.count(way == 0 ? 0 : 1);
        int place = random.nextInt(breadth);
        int number = 0;
        for (int i = 0; i < lines; i++) {
            number = number * 10 + place;
            int step = random.nextInt(30) == 0 ? 2 : 1;
            place = Math.max(0, Math.min(breadth - 1, place + random.nextInt(2 * step + 1) - step));
        }
        return switch (random.nextInt(12)) {
            case 0 -> number(Integer.MAX_VALUE - 1);
            case 1 -> number / 10;
            case 2 -> number + random.nextInt(10);
            default -> number;
        };
    }

    private void oneCall(int which) {
        if (which < 9) {
            pictureCall(which);
        } else if (which < 14) {
            seamCall(which);
        } else {
            otherCall(which);
        }
    }

    private void pictureCall(int which) {
        int px = someX();
        int py = someY();
        switch (which) {
            case 0 -> {
                int wide = random.nextInt(12) == 0 ? number(8) : 3 + random.nextInt(4);
                int high = random.nextInt(12) == 0 ? number(8) : 3 + random.nextInt(4);
                if (random.nextInt(4) == 0) {
                    due("size", slow.size(wide, high), x.size(wide, high), wide, high);
                }
            }
            case 1 -> {
                int v = number(random.nextInt(5) == 0 ? 9 : greys - 1);
                due("grey", slow.grey(px, py, v), x.grey(px, py, v), px, py, v);
            }
            case 2 -> {
                int v = random.nextInt(10) < 4 ? 0 : number(2);
                due("mark", slow.mark(px, py, v), x.mark(px, py, v), px, py, v);
            }
            case 3 -> {
                int v = number(1);
                due("rule", slow.rule(v), x.rule(v), v);
            }
            case 4 -> {
                int what = number(3);
                due("dot", slow.dot(px, py, what), x.dot(px, py, what), px, py, what);
            }
            case 5 -> {
                int sign = random.nextInt(3) == 0 ? number(127) : "0123456789/.kg".charAt(random.nextInt(14));
                for (int i = random.nextInt(20) == 0 ? 0 : 3; i < 4; i++) {
                    say(sign);
                }
            }
            case 6 -> {
                if (random.nextInt(3) == 0) {
                    due("wipe", slow.wipe(), x.wipe());
                }
            }
            case 7 -> {
                int how = number(1);
                due("fault", slow.fault(how), x.fault(how), how);
            }
            default -> {
                int how = number(1);
                due("lay", slow.lay(how), x.lay(how), how);
            }
        }
    }

    private void seamCall(int which) {
        int way = number(1);
        switch (which) {
            case 9 -> {
                int i = number(8) - 1;
                due("seam", slow.seam(way, i), x.seam(way, i), way, i);
            }
            case 10 -> {
                int number = seamNumber(way);
                due("cost", slow.cost(way, number), x.cost(way, number), way, number);
            }
            case 11 -> due("cut", slow.cut(way), x.cut(way), way);
            case 12 -> due("add", slow.add(way), x.add(way), way);
            default -> {
                int i = way == 0 ? someY() : someX();
                due("least", slow.least(way, i), x.least(way, i), way, i);
            }
        }
    }

    private void otherCall(int which) {
        int a = number(Math.max(0, slow.count(0) - 2));
        int b = number(Math.max(0, slow.count(1) - 2));
        int k = number(1);
        switch (which) {
            case 14 -> {
                int what = number(3);
                due("best", slow.best(a, b, what), x.best(a, b, what), a, b, what);
            }
            case 15, 16 -> {
                int what = random.nextInt(3) == 0 ? 0 : number(89);
                due("table", slow.table(a, b, what), x.table(a, b, what), a, b, what);
            }
            case 17 -> {
                if (random.nextInt(3) == 0) {
                    due("go", slow.go(a, b), x.go(a, b), a, b);
                }
            }
            case 18 -> due("image", slow.image(k), x.image(k), k);
            case 19 -> due("restore", slow.restore(k), x.restore(k), k);
            default -> {
                int what = number(7);
                due("count", slow.count(what), x.count(what), what);
            }
        }
        lookAtAll();
    }

    /** Now and then every dot, so that a wrong change is seen before it is gone. */
    private void lookAtAll() {
        if (random.nextInt(40) > 0 || callsLeft < 4 * 64) {
            return;
        }
        for (int y = 0; y < slow.count(1); y++) {
            for (int i = 0; i < slow.count(0); i++) {
                for (int what = 0; what < 4; what++) {
                    due("dot", slow.dot(i, y, what), x.dot(i, y, what), i, y, what);
                }
            }
        }
    }
}
