/** The sentences on the index and its nodes, promise 15, and the bounds as reads show them. */
public final class IndexBoundariesTest extends Scenes {
    private static final String HOME =
        "The HOME of a row is the smallest square that has all coordinates of its bound.";
    private static final String NODES =
        "The index has a NODE for each square that is, or has in it, the home of a row.";
    private static final String NODE_BOUND =
        "The bound of a node is the least rectangle around the bounds of all rows whose homes are its square or in"
        + " it.";

    public static void main(String[] args) {
        levels();
        homesOfNeighbours();
        homesOfGreatest();
        homesByBound();
        nodesOfNone();
        nodesShared();
        nodesOfManyRows();
        nodesGoWithTheirRows();
        boundsOfNodes();
        boundsAtTheCorners();
        boundsShrink();
        boundsShrinkOnEachSide();
        noSuchTable();
        checks.end();
    }

    private static int nodesOf(int kind, int... xy) {
        return withRow(kind, xy).nodes(0);
    }

    private static void levels() {
        says(TERMS, "For each level l from 0 to 8 the plane is cut into SQUARES of side 256 / 2^l, the first one"
            + " with the coordinates 0 .. side - 1.");
        for (int level = 0; level <= 8; level++) {
            int last = (256 >> level) - 1;
            int nodes = last == 0 ? nodesOf(POINT, 0, 0) : nodesOf(LINE, 0, 0, last, last);
            due("the first square of level " + level, level + 1, nodes);
            nodes = last == 0 ? nodesOf(POINT, 255, 255) : nodesOf(LINE, 255, 255, 255 - last, 255 - last);
            due("the last square of level " + level, level + 1, nodes);
            if (level > 0) {
                due("one column more than level " + level, level, nodesOf(LINE, 0, 0, last + 1, 0));
                due("one line more than level " + level, level, nodesOf(LINE, 0, 0, 0, last + 1));
            }
        }
    }

    private static void homesOfNeighbours() {
        says(TERMS, HOME);
        for (int c = 0; c < 255; c++) {
            // Squares of a side that divides c + 1 have a border between c and c + 1.
            int level = 8;
            while ((c + 1) % (256 >> level) == 0 && level > 0) {
                level--;
            }
            due(c + " and the next x", level + 1, nodesOf(LINE, c, 77, c + 1, 77));
            due(c + " and the next y", level + 1, nodesOf(LINE, 77, c + 1, 77, c));
        }
        due("127 and 128 share level 0 alone", 1, nodesOf(LINE, 127, 3, 128, 3));
        due("63 and 64 share level 1", 2, nodesOf(LINE, 63, 3, 64, 3));
        due("191 and 192 share level 1", 2, nodesOf(LINE, 3, 191, 3, 192));
        due("254 and 255 share level 7", 8, nodesOf(LINE, 3, 254, 3, 255));
    }

    private static void homesOfGreatest() {
        says(TERMS, HOME);
        due("all of the plane", 1, nodesOf(AREA, 0, 0, 255, 0, 255, 255, 0, 255));
        due("x asks for more than y", 2, nodesOf(LINE, 128, 5, 255, 5));
        due("y asks for more than x", 2, nodesOf(LINE, 5, 128, 5, 255));
        due("in one half by x, in both by y", 1, nodesOf(LINE, 5, 127, 6, 128));
        due("in one half by y, in both by x", 1, nodesOf(LINE, 127, 5, 128, 6));
        due("across the middle, as small as can be", 1, nodesOf(AREA, 127, 127, 128, 127, 127, 128));
    }

    private static void homesByBound() {
        says(TERMS, "Its BOUND is the least rectangle of points x0 <= x <= x1, y0 <= y <= y1 that has all its"
            + " vertices.");
        due("a middle vertex counts", 1, nodesOf(LINE, 4, 4, 200, 4, 5, 5));
        due("the last vertex counts", 1, nodesOf(LINE, 4, 4, 5, 5, 4, 200));
        due("the first vertex counts", 1, nodesOf(LINE, 200, 4, 5, 5, 4, 4));
        due("a point's bound is the point", 9, nodesOf(POINT, 128, 128));
        due("a level line's bound is the line", 7, nodesOf(LINE, 0, 9, 3, 9));
    }

    private static void nodesOfNone() {
        says("Promise 15", "How many nodes the index of a present table has");
        SpatialTables t = new SpatialTables();
        due("none in table 0", 0, t.nodes(0));
        due("none in table 1", 0, t.nodes(1));
        draw(t, POINT, 3, 3);
        due("the focus is no row", 0, t.nodes(0));
        t.insert(1, 1);
        due("one row", 9, t.nodes(1));
        due("the other table", 0, t.nodes(0));
        t.delete(1, 0);
        due("none again", 0, t.nodes(1));
    }

    private static void nodesShared() {
        says(TERMS, NODES);
        SpatialTables t = new SpatialTables();
        addPoints(t, 0, 0, 0);
        due("one point", 9, t.nodes(0));
        addPoints(t, 0, 0, 0);
        due("the same square twice", 9, t.nodes(0));
        addPoints(t, 0, 1, 0);
        due("all but level 8 shared", 10, t.nodes(0));
        addPoints(t, 0, 2, 0);
        due("all but levels 7 and 8 shared", 12, t.nodes(0));
        addPoints(t, 0, 255, 255);
        due("only level 0 shared", 20, t.nodes(0));
        draw(t, LINE, 0, 0, 3, 3);
        t.insert(0, 1);
        due("a home that is there already", 20, t.nodes(0));
        draw(t, LINE, 128, 0, 255, 127);
        t.insert(0, 1);
        due("a home of level 1 that was not there", 21, t.nodes(0));
    }

    private static void nodesOfManyRows() {
        says(TERMS, NODES);
        SpatialTables t = new SpatialTables();
        int[] apart = new int[32];
        for (int i = 0; i < 16; i++) {
            apart[2 * i] = i % 4 * 64 + 63;
            apart[2 * i + 1] = i / 4 * 64;
        }
        for (int table = 0; table < 2; table++) {
            addPoints(t, table, apart);
            due("16 points, as far apart as can be", 1 + 4 + 16 + 16 * 6, t.nodes(table));
        }
        for (int row = 0; row < 16; row++) {
            t.delete(0, row);
        }
        due("all gone", 0, t.nodes(0));
        addPoints(t, 0, apart);
        due("all back", 117, t.nodes(0));
        SpatialTables low = new SpatialTables();
        addPoints(low, 0, 0, 0, 1, 0, 0, 1, 1, 1);
        due("four squares of one", 8 + 4, low.nodes(0));
    }

    private static void nodesGoWithTheirRows() {
        says(TERMS, NODES);
        SpatialTables t = new SpatialTables();
        addPoints(t, 0, 0, 0, 1, 0, 255, 255);
        due("before", 9 + 1 + 8, t.nodes(0));
        t.commit(-1);
        t.delete(0, 1);
        due("one square less", 17, t.nodes(0));
        t.update(0, 0, 9, false);
        due("a value moves nothing", 17, t.nodes(0));
        t.update(0, 0, 9, true);
        due("moved to the other corner", 9, t.nodes(0));
        t.rollback();
        due("after a rollback", 18, t.nodes(0));
        t.delete(0, 2);
        t.crash();
        due("after a crash", 18, t.nodes(0));
        t.delete(0, 2);
        t.commit(0);
        due("after a commit that was cut", 18, t.nodes(0));
        t.delete(0, 2);
        t.commit(3);
        due("after a commit and a crash", 10, t.nodes(0));
    }

    /** How many nodes and rows a search from a point reads. */
    private static int readsFrom(SpatialTables t, int limit, int x, int y) {
        draw(t, POINT, x, y);
        t.select(0, limit, LEAST, GREATEST);
        return t.reads();
    }

    private static void boundsOfNodes() {
        says(TERMS, NODE_BOUND);
        SpatialTables t = new SpatialTables();
        addPoints(t, 0, 10, 10, 10, 10, 10, 10, 10, 10);
        draw(t, LINE, 100, 20, 100, 90);
        t.insert(0, 1);
        due("(10, 10) has 9 nodes, the line shares those of levels 0 and 1", 9, t.nodes(0));
        // The bound of levels 0 and 1 is 10 .. 100, 10 .. 90; that of levels 2 to 8 is (10, 10).
        due("within the bound of two nodes", 2, readsFrom(t, 0, 50, 50));
        due("at the corner of it", 2, readsFrom(t, 0, 10, 90));
        due("one below it", 0, readsFrom(t, 0, 50, 9));
        due("one left of it", 0, readsFrom(t, 0, 9, 50));
        due("one above it", 0, readsFrom(t, 0, 50, 91));
        due("one right of it", 0, readsFrom(t, 0, 101, 50));
        due("on the line", 3, readsFrom(t, 0, 100, 50));
        due("on the points", 9 + 4, readsFrom(t, 0, 10, 10));
        due("in the same square, but off the bound", 0, readsFrom(t, 0, 5, 5));
    }

    private static void boundsShrink() {
        says(TERMS, NODE_BOUND);
        SpatialTables t = new SpatialTables();
        addPoints(t, 0, 10, 10, 10, 10, 10, 10, 10, 10, 10, 10, 60, 60);
        t.commit(-1);
        due("between", 3, readsFrom(t, 0, 40, 40));
        t.delete(0, 5);
        due("between no more", 0, readsFrom(t, 0, 40, 40));
        t.rollback();
        due("between again", 3, readsFrom(t, 0, 40, 40));
        draw(t, POINT, 10, 10);
        t.update(0, 5, 1, true);
        due("moved away", 0, readsFrom(t, 0, 40, 40));
        t.crash();
        due("after a crash", 3, readsFrom(t, 0, 40, 40));
        draw(t, POINT, 90, 30);
        t.update(0, 5, 1, true);
        due("10 .. 90, 10 .. 30 has it not", 0, readsFrom(t, 0, 40, 40));
        due("10 .. 90, 10 .. 30 has it", 2, readsFrom(t, 0, 70, 25));
    }

    private static void boundsAtTheCorners() {
        says(TERMS, NODE_BOUND);
        for (int x = 0; x <= 255; x += 255) {
            for (int y = 0; y <= 255; y += 255) {
                SpatialTables t = withFocus(POINT, x, y);
                addRows(t, 0, 5);
                int besideX = x == 0 ? 1 : 254;
                int besideY = y == 0 ? 1 : 254;
                due("in the corner", 9 + 5, readsFrom(t, 0, x, y));
                due("beside it in x", 0, readsFrom(t, 0, besideX, y));
                due("beside it in x, limit 1", 9 + 5, readsFrom(t, 1, besideX, y));
                due("beside it in y", 0, readsFrom(t, 0, x, besideY));
                due("beside it in y, limit 1", 9 + 5, readsFrom(t, 1, x, besideY));
            }
        }
    }

    private static void boundsShrinkOnEachSide() {
        says(TERMS, NODE_BOUND);
        int[] far = {90, 50, 10, 50, 50, 90, 50, 10};
        for (int i = 0; i < far.length; i += 2) {
            SpatialTables t = new SpatialTables();
            addPoints(t, 0, 50, 50, 50, 50, 50, 50, 50, 50, 50, 50, far[i], far[i + 1]);
            int betweenX = (50 + far[i]) / 2;
            int betweenY = (50 + far[i + 1]) / 2;
            due("between, side " + i, true, readsFrom(t, 0, betweenX, betweenY) >= 2);
            t.delete(0, 5);
            due("between no more, side " + i, 0, readsFrom(t, 0, betweenX, betweenY));
            due("one off, side " + i, 9 + 5, readsFrom(t, 1, 50 + Integer.signum(far[i] - 50),
                50 + Integer.signum(far[i + 1] - 50)));
        }
    }

    private static void noSuchTable() {
        says("Promise 15", "-1 if there is no such table.");
        for (int table : NO_TABLES) {
            due("table " + table, -1, new SpatialTables().nodes(table));
            due("table " + table + ", with rows", -1, withRow(POINT, 9, 9).nodes(table));
        }
    }
}
