/** What the tests by example share: pictures drawn from texts, and whole pictures looked at. */
abstract class Examples {
    static final int UNKNOWN = -1, OUTSIDE = -2, STATE = -3, FULL = -4, NO = -5, NONE = -6, FAULT = -7;
    static final int[] FAR = {Integer.MIN_VALUE, -1000000, -1, 1000000, Integer.MAX_VALUE};
    static final int LEAST = Integer.MIN_VALUE, MOST = Integer.MAX_VALUE;

    static final Checks checks = new Checks();

    static void due(String call, long got, long want) {
        checks.due(call, got, want);
    }

    /** A picture of that many dots; what lies on it are the greys and, if there are any, the marks. */
    static SeamPictures picture(String greys, String marks) {
        SeamPictures x = new SeamPictures();
        int wide = greys.indexOf('/');
        x.size(wide, (greys.length() + 1) / (wide + 1));
        saying(x, greys).lay(0);
        if (!marks.isEmpty()) {
            saying(x, marks).lay(1);
        }
        return x;
    }

    static SeamPictures blank(int wide, int high) {
        SeamPictures x = new SeamPictures();
        x.size(wide, high);
        return x;
    }

    static SeamPictures saying(SeamPictures x, String signs) {
        for (int i = 0; i < signs.length(); i++) {
            x.say(signs.charAt(i));
        }
        return x;
    }

    /** As many rows as HIGH of as many of this sign as WIDE. */
    static String rows(String sign, int wide, int high) {
        return (sign.repeat(wide) + "/").repeat(high - 1) + sign.repeat(wide);
    }

    /** Whether the dots are just these. */
    static void duePicture(String after, SeamPictures x, String greys, String marks) {
        dueDots(after + ": greys", x, 0, greys, "0123456789");
        dueDots(after + ": marks", x, 1, marks, ".kg");
    }

    private static void dueDots(String after, SeamPictures x, int what, String rows, String signs) {
        String[] row = rows.split("/");
        dueSize(after, x, row[0].length(), row.length);
        for (int y = 0; y < row.length; y++) {
            for (int i = 0; i < row[y].length(); i++) {
                due(after + ": dot (" + i + ", " + y + ")", x.dot(i, y, what), signs.indexOf(row[y].charAt(i)));
            }
        }
    }

    static void dueSize(String after, SeamPictures x, int wide, int high) {
        due(after + ": WIDE", x.count(0), wide);
        due(after + ": HIGH", x.count(1), high);
    }

    static void dueSeam(String of, SeamPictures x, int way, int cost, int... places) {
        due(of + ": cost of seam " + way, x.seam(way, -1), 10000 + cost);
        for (int i = 0; i < places.length; i++) {
            due(of + ": seam(" + way + ", " + i + ")", x.seam(way, i), places[i]);
        }
        due(of + ": seam(" + way + ", " + places.length + ")", x.seam(way, places.length), NONE);
    }
}
