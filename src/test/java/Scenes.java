/** What the tests share: the checks, and short ways to draw, to put rows in and to look at results. */
abstract class Scenes {
    // Where a sentence stands, if it stands under no promise.
    static final String TERMS = "Terms";
    static final int LEAST = Integer.MIN_VALUE;
    static final int GREATEST = Integer.MAX_VALUE;
    static final int POINT = SpatialTables.POINT;
    static final int LINE = SpatialTables.LINE;
    static final int AREA = SpatialTables.AREA;
    static final int[] NO_TABLES = {-1, 2, 3, 15, LEAST, GREATEST};
    static final int[] NO_ROWS = {-1, 16, 17, LEAST, GREATEST};

    static final Checks checks = new Checks();
    private static String sentence = "";

    /** The sentence of the document that the checks after this call are about. */
    static void says(String where, String words) {
        sentence = where + ", \"" + words + "\": ";
    }

    static void due(String what, long want, long got) {
        checks.due(sentence + what, want, got);
    }

    static void due(String what, boolean want, boolean got) {
        checks.due(sentence + what, want, got);
    }

    static void addVertices(SpatialTables t, int... xy) {
        for (int i = 0; i < xy.length; i += 2) {
            t.vertex(xy[i], xy[i + 1]);
        }
    }

    /** Puts vertices x, y, x, y .. into the draft and makes a shape of them. */
    static int draw(SpatialTables t, int kind, int... xy) {
        addVertices(t, xy);
        return t.shape(kind);
    }

    static SpatialTables withFocus(int kind, int... xy) {
        SpatialTables t = new SpatialTables();
        due("the focus is drawn", 0, draw(t, kind, xy));
        return t;
    }

    /** An object with the geometry as row 0 of table 0, value 1, and as its focus. */
    static SpatialTables withRow(int kind, int... xy) {
        SpatialTables t = withFocus(kind, xy);
        t.insert(0, 1);
        return t;
    }

    /** Puts a row for each point x, y, x, y .. into a table, the i-th one with the value i. */
    static void addPoints(SpatialTables t, int table, int... xy) {
        for (int i = 0; i < xy.length; i += 2) {
            draw(t, POINT, xy[i], xy[i + 1]);
            t.insert(table, i / 2);
        }
    }

    static void addRows(SpatialTables t, int table, int count) {
        for (int i = 0; i < count; i++) {
            t.insert(table, i);
        }
    }

    /** Compares all results with the wanted ones, and that there are no more. */
    static void dueResults(String what, SpatialTables t, int... want) {
        for (int i = 0; i < want.length; i++) {
            due(what + ", result " + i, want[i], t.result(i));
        }
        due(what + ", after the last result", -1, t.result(want.length));
    }
}
