import java.util.Arrays;

/** The sentences on searches, and promises 7 to 11: one method for each that names a boundary. */
public final class QueryBoundariesTest extends Scenes {
    private static final String FEW_ROWS = "If the table has at most 4 rows it READS each row.";
    private static final String MANY_ROWS =
        "Otherwise it reads each node whose bound has a squared distance of at most d from the bound of g, and each"
        + " row whose bound has.";
    private static final String LOW_TO_HIGH =
        "of the rows that it finds those with low <= value <= high are the results";
    private static final String NEAREST_REFUSED =
        "-1, refused, if there is no such table, no focus, or k is not 1 .. 16.";
    private static final String EQUAL_ONES = "of equal ones by rising numbers: how many";
    private static final String UP_TO_D =
        "With D the squared distance of the last result, it reads each node whose bound, and each row whose bound,"
        + " has a squared distance of at most D from the bound of the focus";
    private static final String RISING_PAIRS =
        "the results are all pairs of a row a of table 0 and a row b that the search with a found, by rising a, then"
        + " b: how many";
    private static final String ALL_SEARCHES = "Its reads are those of all the searches.";
    private static final String ITH_RESULT =
        "The i-th result (from 0) of the latest select, nearest or join that was not refused: the row's number; for"
        + " a pair 16 a + b.";

    public static void main(String[] args) {
        atMostTheLimit();
        greatestLimit();
        fewRowsAreAllRead();
        fewRowsAfterChanges();
        manyRowsByNodes();
        boundsOfRows();
        boundOfTheFocus();
        rectanglesAllAround();
        readsGoWithBoundsAlone();
        valuesFromLowToHigh();
        valuesAtTheEnds();
        risingNumbers();
        selectRefused();
        allIfNotSoMany();
        kOfOneAndSixteen();
        equalDistances();
        equalDistancesAtTheLast();
        meetingIsNearest();
        readsUpToTheLast();
        readsUpToAFraction();
        readsOfLessThanK();
        nearestHasNoFewRows();
        nearestRefused();
        joinOfNothing();
        joinByRisingPairs();
        joinOfAll();
        joinReads();
        joinReadsFewRows();
        joinRefused();
        resultIsThere();
        resultOfTheLatest();
        resultsStay();
        readsOfNone();
        readsOfTheLatest();
        checks.end();
    }

    private static int found(SpatialTables t, int limit) {
        return t.select(0, limit, LEAST, GREATEST);
    }

    private static int readsOf(SpatialTables t, int limit) {
        t.select(0, limit, LEAST, GREATEST);
        return t.reads();
    }

    private static void atMostTheLimit() {
        says(TERMS, "finds the rows whose squared distance from g is at most d");
        SpatialTables t = new SpatialTables();
        addPoints(t, 0, 10, 10, 10, 11, 11, 11, 10, 12);
        draw(t, POINT, 10, 10);
        int[] counts = {1, 2, 3, 3, 4, 4};
        for (int limit = 0; limit < counts.length; limit++) {
            due("limit " + limit, counts[limit], found(t, limit));
        }
        t = withRow(LINE, 0, 0, 1, 1);
        draw(t, POINT, 1, 0);
        due("1/2 is not at most 0", 0, found(t, 0));
        due("1/2 is at most 1", 1, found(t, 1));
    }

    private static void greatestLimit() {
        says(TERMS, "A SEARCH with a geometry g, a table and a limit d (at least 0)");
        SpatialTables t = new SpatialTables();
        addPoints(t, 0, 0, 0, 255, 255, 255, 0, 0, 255, 128, 128);
        draw(t, POINT, 0, 0);
        due("the corner is not nearer", 4, found(t, 130049));
        due("the corner", 5, found(t, 130050));
        for (int limit : new int[] {130051, 65536 * 256, GREATEST - 1, GREATEST}) {
            due("limit " + limit, 5, found(t, limit));
            due("reads all", t.nodes(0) + 5, t.reads());
            due("the other table", 0, t.select(1, limit, LEAST, GREATEST));
        }
        draw(t, LINE, 0, 3, 255, 2);
        due("limit of 0", 0, found(t, 0));
        // Fractions with a great bottom: 65026 times the greatest limit is far above an int.
        due("a line and the greatest limit", 5, found(t, GREATEST));
    }

    private static void fewRowsAreAllRead() {
        says(TERMS, FEW_ROWS);
        for (int count = 0; count <= 16; count++) {
            SpatialTables t = withFocus(POINT, 200, 200);
            addRows(t, 0, count);
            draw(t, POINT, 0, 0);
            due(count + " rows, far away", 0, found(t, 0));
            due(count + " rows, reads from far away", count <= 4 ? count : 0, t.reads());
            draw(t, POINT, 200, 200);
            due(count + " rows, at the place", count, found(t, 0));
            due(count + " rows, reads at the place", count <= 4 ? count : 9 + count, t.reads());
            due(count + " rows, no such value", 0, t.select(0, 0, 99, 99));
            due(count + " rows, reads all the same", count <= 4 ? count : 9 + count, t.reads());
        }
    }

    private static void fewRowsAfterChanges() {
        says(TERMS, FEW_ROWS);
        SpatialTables t = withFocus(POINT, 200, 200);
        addRows(t, 0, 4);
        t.commit(-1);
        t.insert(0, 1);
        due("five", 14, readsOf(t, 0));
        t.delete(0, 0);
        due("four again", 4, readsOf(t, 0));
        t.insert(0, 1);
        due("five again", 14, readsOf(t, 0));
        t.rollback();
        due("four by a rollback", 4, readsOf(t, 0));
        addRows(t, 1, 16);
        due("the other table does not count", 4, readsOf(t, 0));
    }

    private static void manyRowsByNodes() {
        says(TERMS, MANY_ROWS);
        SpatialTables t = new SpatialTables();
        addPoints(t, 0, 100, 100, 100, 100, 100, 100, 100, 100, 100, 100);
        draw(t, POINT, 103, 104);
        due("24 is less than 25", 0, readsOf(t, 24));
        due("25 is at most 25", 9 + 5, readsOf(t, 25));
        draw(t, POINT, 97, 96);
        due("24 from below", 0, readsOf(t, 24));
        due("25 from below", 9 + 5, readsOf(t, 25));
        draw(t, POINT, 255, 100);
        due("155 * 155 - 1", 0, readsOf(t, 24024));
        due("155 * 155", 14, readsOf(t, 24025));
    }

    private static void boundsOfRows() {
        says(TERMS, MANY_ROWS);
        SpatialTables t = withFocus(LINE, 0, 0, 120, 120);
        addRows(t, 0, 5);
        due("all in the square of level 1", 2, t.nodes(0));
        draw(t, POINT, 120, 0);
        due("in the bound, off the line", 0, found(t, 0));
        due("read all the same", 2 + 5, t.reads());
        draw(t, POINT, 121, 0);
        due("off the bound", 0, readsOf(t, 0));
        due("one off the bound", 2 + 5, readsOf(t, 1));
    }

    private static void boundOfTheFocus() {
        says(TERMS, MANY_ROWS);
        SpatialTables t = withFocus(POINT, 50, 20);
        addRows(t, 0, 5);
        draw(t, LINE, 20, 20, 50, 50);
        due("the row is at the corner of the focus' bound", 0, found(t, 0));
        due("read by the focus' bound", 9 + 5, t.reads());
        draw(t, LINE, 20, 21, 50, 50);
        due("one off the focus' bound", 0, readsOf(t, 0));
        due("one off, limit 1", 14, readsOf(t, 1));
        draw(t, AREA, 0, 0, 255, 0, 0, 255);
        due("within the focus", 5, found(t, 0));
        due("reads within the focus", 14, t.reads());
    }

    /** A focus on each side and at each corner of the rows' bound, 3 off in x or 4 off in y or both. */
    private static void rectanglesAllAround() {
        says(TERMS, "The SQUARED DISTANCE of two geometries, or of two rectangles, is the least square of the straight"
            + " distance from a point of the one to a point of the other (0 if they meet)");
        SpatialTables t = withFocus(LINE, 100, 100, 110, 120);
        addRows(t, 0, 5);
        int nodes = t.nodes(0);
        for (int column = -1; column <= 1; column++) {
            for (int line = -1; line <= 1; line++) {
                int x = new int[] {92, 103, 113}[column + 1];
                int y = new int[] {90, 108, 124}[line + 1];
                due("is drawn", 0, draw(t, LINE, x, y, x + 5, y + 6));
                int square = (column == 0 ? 0 : 9) + (line == 0 ? 0 : 16);
                due("at " + column + " " + line, nodes + 5, readsOf(t, square));
                if (square > 0) {
                    due("not yet at " + column + " " + line, 0, readsOf(t, square - 1));
                }
            }
        }
        draw(t, LINE, 0, 255, 255, 0);
        due("around all", nodes + 5, readsOf(t, 0));
        draw(t, LINE, 110, 120, 130, 140);
        due("corner at corner", nodes + 5, readsOf(t, 0));
    }

    private static void readsGoWithBoundsAlone() {
        says(TERMS, "Its READS are how many nodes and rows it reads.");
        SpatialTables t = new SpatialTables();
        addPoints(t, 0, 0, 0, 0, 255, 255, 0, 255, 255, 127, 127, 128, 128);
        draw(t, POINT, 0, 0);
        // Level 0, levels 1 to 8 around (0, 0), and the row; the node of level 1 has (127, 127) too.
        due("one corner", 9 + 1, readsOf(t, 0));
        draw(t, POINT, 127, 127);
        due("the middle", 9 + 1, readsOf(t, 0));
        due("the middle, and the point beside it", 9 + 8 + 2, readsOf(t, 2));
        due("the middle, limit 1", 9 + 1, readsOf(t, 1));
        due("all", t.nodes(0) + 6, readsOf(t, 130050));
    }

    private static void valuesFromLowToHigh() {
        says("Promise 7", LOW_TO_HIGH);
        SpatialTables t = withFocus(POINT, 9, 9);
        for (int value = -3; value <= 3; value++) {
            t.insert(0, value);
        }
        for (int low = -4; low <= 4; low++) {
            for (int high = -4; high <= 4; high++) {
                int want = Math.max(0, Math.min(3, high) - Math.max(-3, low) + 1);
                due(low + " to " + high, want, t.select(0, 0, low, high));
            }
        }
        due("low above high", 0, t.select(0, 0, 3, -3));
        dueResults("low above high", t);
        due("reads are those of the search", 9 + 7, t.reads());
    }

    private static void valuesAtTheEnds() {
        says("Promise 7", LOW_TO_HIGH);
        SpatialTables t = withFocus(POINT, 9, 9);
        t.insert(1, LEAST);
        t.insert(1, GREATEST);
        t.insert(1, 0);
        due("all ints", 3, t.select(1, 0, LEAST, GREATEST));
        due("the least alone", 1, t.select(1, 0, LEAST, LEAST));
        dueResults("the least alone", t, 0);
        due("the greatest alone", 1, t.select(1, 0, GREATEST, GREATEST));
        dueResults("the greatest alone", t, 1);
        due("all but the ends", 1, t.select(1, 0, LEAST + 1, GREATEST - 1));
        dueResults("all but the ends", t, 2);
        due("from the greatest to the least", 0, t.select(1, 0, GREATEST, LEAST));
    }

    private static void risingNumbers() {
        says("Promise 7", "by rising numbers: how many");
        SpatialTables t = new SpatialTables();
        for (int i = 15; i >= 0; i--) {
            addPoints(t, 0, 10 + i, 10);
        }
        draw(t, POINT, 10, 10);
        due("all 16", 16, found(t, 1000));
        dueResults("all 16", t, 0, 1, 2, 3, 4, 5, 6, 7, 8, 9, 10, 11, 12, 13, 14, 15);
        t.delete(0, 0);
        t.delete(0, 7);
        addPoints(t, 0, 10, 10);
        draw(t, POINT, 10, 10);
        due("the nearest three", 3, found(t, 1));
        dueResults("the nearest three", t, 0, 14, 15);
        due("none", 0, t.select(0, 0, 77, 77));
        dueResults("none", t);
    }

    private static void selectRefused() {
        says("Promise 7", "-1, refused, if there is no such table, no focus, or limit is below 0.");
        SpatialTables t = new SpatialTables();
        due("no focus", -1, t.select(0, 0, LEAST, GREATEST));
        t.vertex(9, 9);
        due("a draft is no focus", -1, t.select(1, 0, LEAST, GREATEST));
        t.shape(POINT);
        addRows(t, 0, 3);
        found(t, 0);
        for (int table : NO_TABLES) {
            due("table " + table, -1, t.select(table, 0, 0, 0));
        }
        for (int limit : new int[] {-1, -2, LEAST, LEAST + 1}) {
            due("limit " + limit, -1, t.select(0, limit, 0, 0));
        }
        dueResults("the results stay", t, 0, 1, 2);
        due("the reads stay", 3, t.reads());
        t.commit(-1);
        t.crash();
        due("no focus after a crash", -1, t.select(0, 0, 0, 0));
    }

    private static void allIfNotSoMany() {
        says("Promise 8", "The k rows of a table that are nearest to the focus (all of them, if there are not so"
            + " many) are the results, by rising squared distance");
        SpatialTables t = new SpatialTables();
        addPoints(t, 0, 40, 10, 10, 10, 30, 10, 20, 10);
        draw(t, POINT, 10, 10);
        int[] order = {1, 3, 2, 0};
        for (int k = 1; k <= 16; k++) {
            due("k of " + k, Math.min(k, 4), t.nearest(0, k));
            dueResults("k of " + k, t, Arrays.copyOf(order, Math.min(k, 4)));
        }
        for (int k = 1; k <= 16; k++) {
            due("an empty table, k of " + k, 0, t.nearest(1, k));
            dueResults("an empty table", t);
            due("an empty table's reads", 0, t.reads());
        }
    }

    private static void kOfOneAndSixteen() {
        says("Promise 8", NEAREST_REFUSED);
        SpatialTables t = new SpatialTables();
        for (int i = 0; i < 16; i++) {
            addPoints(t, 0, 200 - 10 * i, 10);
        }
        draw(t, POINT, 0, 10);
        due("k of 1", 1, t.nearest(0, 1));
        dueResults("k of 1", t, 15);
        due("k of 16", 16, t.nearest(0, 16));
        dueResults("k of 16", t, 15, 14, 13, 12, 11, 10, 9, 8, 7, 6, 5, 4, 3, 2, 1, 0);
        due("k of 16 reads all", t.nodes(0) + 16, t.reads());
    }

    private static void equalDistances() {
        says("Promise 8", EQUAL_ONES);
        SpatialTables t = new SpatialTables();
        addPoints(t, 0, 13, 14, 15, 10, 10, 15, 5, 10, 10, 5, 7, 6, 14, 13, 6, 7);
        draw(t, POINT, 10, 10);
        due("eight at 25", 8, t.nearest(0, 8));
        dueResults("eight at 25", t, 0, 1, 2, 3, 4, 5, 6, 7);
        t.delete(0, 2);
        addPoints(t, 0, 10, 11);
        t.delete(0, 5);
        addPoints(t, 0, 20, 20);
        draw(t, POINT, 10, 10);
        due("one nearer, one farther", 8, t.nearest(0, 9));
        dueResults("one nearer, one farther", t, 2, 0, 1, 3, 4, 6, 7, 5);
        draw(t, AREA, 0, 0, 99, 0, 99, 99, 0, 99);
        due("all meet the focus", 8, t.nearest(0, 16));
        dueResults("all meet the focus", t, 0, 1, 2, 3, 4, 5, 6, 7);
    }

    private static void equalDistancesAtTheLast() {
        says("Promise 8", EQUAL_ONES);
        SpatialTables t = withFocus(POINT, 60, 60);
        addRows(t, 0, 16);
        for (int k = 1; k < 16; k++) {
            due("k of " + k, k, t.nearest(0, k));
            due("the first", 0, t.result(0));
            due("the last", k - 1, t.result(k - 1));
            due("no more", -1, t.result(k));
            due("the rows that are as near are read too", 9 + 16, t.reads());
        }
    }

    private static void meetingIsNearest() {
        says("Promise 8", EQUAL_ONES);
        SpatialTables t = new SpatialTables();
        addPoints(t, 0, 50, 51);
        draw(t, AREA, 40, 40, 60, 40, 60, 60, 40, 60);
        t.insert(0, 1);
        draw(t, LINE, 50, 0, 50, 99);
        t.insert(0, 2);
        addPoints(t, 0, 50, 50, 49, 50);
        draw(t, POINT, 50, 50);
        due("around it, through it, at it, then 1 off", 5, t.nearest(0, 5));
        dueResults("around it, through it, at it, then 1 off", t, 1, 2, 3, 0, 4);
    }

    private static void readsUpToTheLast() {
        says("Promise 8", UP_TO_D);
        SpatialTables t = new SpatialTables();
        addPoints(t, 0, 0, 0, 3, 4, 200, 200);
        draw(t, LINE, 5, 0, 0, 6);
        t.insert(0, 3);
        draw(t, POINT, 0, 0);
        due("the nearest", 1, t.nearest(0, 1));
        // Levels 0 to 8 of (0, 0), itself, and the line with its bound around the focus.
        due("D of 0", 9 + 2, t.reads());
        due("two", 2, t.nearest(0, 2));
        dueResults("two", t, 0, 3);
        // (3, 4) has levels 6 to 8 alone; they are 25 off, as it is.
        due("D of 900/61", 9 + 2, t.reads());
        due("three", 3, t.nearest(0, 3));
        dueResults("three", t, 0, 3, 1);
        due("D of 25", 9 + 3 + 3, t.reads());
        due("four", 4, t.nearest(0, 4));
        due("D that reaches all", 20 + 4, t.reads());
        due("all nodes", 20, t.nodes(0));
    }

    private static void readsUpToAFraction() {
        says("Promise 8", UP_TO_D);
        // Row 0 is 9/2 off, its bound 0; row 1 is 5 off, as is its bound; row 2 is 64/5 off, its bound 4.
        SpatialTables t = withRow(LINE, 50, 53, 53, 50);
        addPoints(t, 0, 49, 48);
        draw(t, LINE, 48, 46, 46, 50);
        t.insert(0, 2);
        draw(t, POINT, 50, 50);
        due("9/2", 4, t.measure(0, 0));
        due("5", 5, t.measure(0, 1));
        due("64/5", 12, t.measure(0, 2));
        due("levels 0 to 5 are shared, 6 to 8 are row 1's", 9, t.nodes(0));
        due("one", 1, t.nearest(0, 1));
        dueResults("one", t, 0);
        due("D of 9/2 reads what is 4 off and not what is 5 off", 6 + 2, t.reads());
        due("two", 2, t.nearest(0, 2));
        dueResults("two", t, 0, 1);
        due("D of 5", 9 + 3, t.reads());
        due("three", 3, t.nearest(0, 3));
        dueResults("three", t, 0, 1, 2);
        due("D of 64/5", 9 + 3, t.reads());
    }

    private static void readsOfLessThanK() {
        says("Promise 8", "all nodes and rows, if the table has less than k rows");
        SpatialTables t = new SpatialTables();
        addPoints(t, 0, 10, 10, 10, 10);
        draw(t, LINE, 100, 10, 255, 255);
        t.insert(0, 1);
        draw(t, POINT, 10, 10);
        due("nodes", 9, t.nodes(0));
        due("less than k", 3, t.nearest(0, 4));
        due("all", 9 + 3, t.reads());
        due("less than 16", 3, t.nearest(0, 16));
        due("all", 9 + 3, t.reads());
        due("as many as k", 3, t.nearest(0, 3));
        due("all are within D", 9 + 3, t.reads());
        due("more than k", 2, t.nearest(0, 2));
        due("those within D", 9 + 2, t.reads());
    }

    private static void nearestHasNoFewRows() {
        says("Promise 8", UP_TO_D);
        SpatialTables t = new SpatialTables();
        addPoints(t, 0, 10, 10);
        due("one row", 1, t.nearest(0, 1));
        due("its nodes are read too", 9 + 1, t.reads());
        addPoints(t, 0, 200, 200);
        due("two rows", 1, t.nearest(0, 1));
        due("the nodes of the nearer one", 9 + 1, t.reads());
        draw(t, POINT, 10, 11);
        due("one off", 1, t.nearest(0, 1));
        due("levels 0 to 8 are 1 off, as is the row", 9 + 1, t.reads());
    }

    private static void nearestRefused() {
        says("Promise 8", NEAREST_REFUSED);
        SpatialTables t = new SpatialTables();
        due("no focus", -1, t.nearest(0, 1));
        t.vertex(9, 9);
        due("a draft is no focus", -1, t.nearest(1, 16));
        t.shape(POINT);
        addRows(t, 0, 3);
        t.nearest(0, 2);
        for (int table : NO_TABLES) {
            due("table " + table, -1, t.nearest(table, 1));
        }
        for (int k : new int[] {0, -1, 17, 18, LEAST, GREATEST}) {
            due("k of " + k, -1, t.nearest(0, k));
            due("k of " + k + ", an empty table", -1, t.nearest(1, k));
        }
        dueResults("the results stay", t, 0, 1);
        due("the reads stay", 9 + 3, t.reads());
        t.commit(-1);
        t.crash();
        due("no focus after a crash", -1, t.nearest(0, 1));
    }

    private static void joinOfNothing() {
        says("Promise 9", "For each row of table 0, by rising numbers, a search with its geometry, table 1 and"
            + " limit");
        SpatialTables t = new SpatialTables();
        due("two empty tables", 0, t.join(0));
        due("nothing is read", 0, t.reads());
        draw(t, POINT, 9, 9);
        addRows(t, 1, 16);
        due("no rows in table 0", 0, t.join(GREATEST));
        due("nothing is read of table 1", 0, t.reads());
        t = withFocus(POINT, 9, 9);
        addRows(t, 0, 16);
        due("no rows in table 1", 0, t.join(GREATEST));
        due("nothing is there to be read", 0, t.reads());
        dueResults("no rows in table 1", t);
    }

    private static void joinByRisingPairs() {
        says("Promise 9", RISING_PAIRS);
        SpatialTables t = new SpatialTables();
        addPoints(t, 0, 10, 10, 200, 200, 10, 10);
        addPoints(t, 1, 200, 200, 10, 10, 10, 11, 200, 202);
        due("meeting", 3, t.join(0));
        dueResults("meeting", t, 1, 16, 33);
        due("1 off", 5, t.join(1));
        dueResults("1 off", t, 1, 2, 16, 33, 34);
        due("3 is less than 4", 5, t.join(3));
        due("4 is at most 4", 6, t.join(4));
        dueResults("4 off", t, 1, 2, 16, 19, 33, 34);
        due("the focus has no part", 0, draw(t, POINT, 100, 100));
        due("the same again", 6, t.join(4));
        t.commit(-1);
        t.crash();
        due("without a focus", 6, t.join(4));
        t.rollback();
        t.delete(0, 0);
        due("present tables", 4, t.join(4));
        dueResults("present tables", t, 16, 19, 33, 34);
    }

    private static void joinOfAll() {
        says("Promise 9", RISING_PAIRS);
        SpatialTables t = withFocus(POINT, 9, 9);
        addRows(t, 0, 16);
        addRows(t, 1, 16);
        due("16 by 16", 256, t.join(0));
        for (int i = 0; i < 256; i++) {
            due("pair " + i, i, t.result(i));
        }
        due("no more", -1, t.result(256));
        due("16 searches of 9 nodes and 16 rows", 16 * 25, t.reads());
        due("the greatest limit", 256, t.join(GREATEST));
        due("the last pair", 255, t.result(255));
        t.delete(0, 15);
        due("15 by 16", 240, t.join(0));
        due("no 241st", -1, t.result(240));
    }

    private static void joinReads() {
        says("Promise 9", ALL_SEARCHES);
        SpatialTables t = new SpatialTables();
        addPoints(t, 0, 10, 10, 20, 10, 10, 10, 255, 255);
        addPoints(t, 1, 10, 10, 10, 10, 10, 10, 10, 10, 20, 10);
        // (10, 10) shares levels 0 to 3 with (20, 10): bound 10 .. 20, 10; levels 4 to 8 are its own.
        due("nodes", 9 + 5, t.nodes(1));
        due("pairs", 4 + 1 + 4, t.join(0));
        due("reads", 9 + 4 + 9 + 1 + 9 + 4, t.reads());
        t.join(99);
        due("reads with 99", 13 + 10 + 13, t.reads());
        t.join(100);
        due("reads with 100", 3 * (14 + 5), t.reads());
    }

    private static void joinReadsFewRows() {
        says("Promise 9", ALL_SEARCHES);
        for (int rows = 0; rows <= 5; rows++) {
            SpatialTables t = withFocus(POINT, 50, 50);
            addRows(t, 1, rows);
            addPoints(t, 0, 0, 0, 0, 0, 255, 0, 0, 255, 50, 51, 50, 50, 9, 9);
            due(rows + " rows", rows, t.join(0));
            due(rows + " rows, the rows of table 0 do not count", rows <= 4 ? 7 * rows : 9 + 5, t.reads());
        }
    }

    private static void joinRefused() {
        says("Promise 9", "-1, refused, if limit is below 0.");
        SpatialTables t = withRow(POINT, 9, 9);
        t.insert(1, 1);
        t.insert(1, 1);
        t.join(0);
        for (int limit : new int[] {-1, -2, LEAST, LEAST + 1}) {
            due("limit " + limit, -1, t.join(limit));
            due("limit " + limit + ", empty tables", -1, new SpatialTables().join(limit));
        }
        dueResults("the results stay", t, 0, 1);
        due("the reads stay", 2, t.reads());
    }

    private static void resultIsThere() {
        says("Promise 10", "-1 if there is none.");
        SpatialTables t = new SpatialTables();
        for (int i : new int[] {0, 1, -1, 255, 256, LEAST, GREATEST}) {
            due("no query was made, " + i, -1, t.result(i));
        }
        draw(t, POINT, 9, 9);
        addRows(t, 0, 16);
        found(t, 0);
        due("the first", 0, t.result(0));
        due("the last", 15, t.result(15));
        for (int i : new int[] {16, 17, -1, 255, 256, 1 << 16, LEAST, LEAST + 15, GREATEST}) {
            due("result " + i, -1, t.result(i));
        }
        t.select(0, 0, 3, 4);
        dueResults("fewer than before", t, 3, 4);
        due("what was there before", -1, t.result(15));
        t.select(0, 0, 99, 99);
        due("none found", -1, t.result(0));
    }

    private static void resultOfTheLatest() {
        says("Promise 10", ITH_RESULT);
        SpatialTables t = withFocus(POINT, 9, 9);
        addRows(t, 0, 3);
        addRows(t, 1, 2);
        t.delete(0, 0);
        t.join(0);
        dueResults("a join", t, 16, 17, 32, 33);
        t.nearest(0, 1);
        dueResults("a nearest after it", t, 1);
        t.select(1, 0, 1, 1);
        dueResults("a select after it", t, 1);
        t.join(0);
        t.select(0, -1, 0, 9);
        t.nearest(0, 0);
        t.join(-1);
        dueResults("three refused ones after a join", t, 16, 17, 32, 33);
        t.nearest(1, 16);
        dueResults("another nearest", t, 0, 1);
    }

    private static void resultsStay() {
        says("Promise 10", ITH_RESULT);
        SpatialTables t = withFocus(POINT, 9, 9);
        addRows(t, 0, 3);
        found(t, 0);
        draw(t, POINT, 99, 99);
        t.delete(0, 2);
        t.update(0, 1, 5, true);
        t.insert(0, 9);
        t.measure(0, 0);
        dueResults("after changes", t, 0, 1, 2);
        t.commit(-1);
        dueResults("after a commit", t, 0, 1, 2);
        t.commit(0);
        dueResults("after a commit of nothing", t, 0, 1, 2);
        t.rollback();
        dueResults("after a rollback", t, 0, 1, 2);
        due("reads stay too", 3, t.reads());
        t.crash();
        dueResults("after a crash", t);
        due("no reads after a crash", 0, t.reads());
    }

    private static void readsOfNone() {
        says("Promise 11", "0 if there was none.");
        SpatialTables t = new SpatialTables();
        due("a new object", 0, t.reads());
        t.select(0, 0, 0, 0);
        t.nearest(0, 1);
        t.join(-1);
        due("refused ones alone", 0, t.reads());
        draw(t, POINT, 9, 9);
        addRows(t, 0, 9);
        t.measure(0, 0);
        t.commit(-1);
        due("other calls alone", 0, t.reads());
        found(t, 0);
        t.crash();
        due("after a crash", 0, t.reads());
    }

    private static void readsOfTheLatest() {
        says("Promise 11", "The reads of the latest select, nearest or join that was not refused");
        SpatialTables t = withFocus(POINT, 9, 9);
        addRows(t, 0, 5);
        addRows(t, 1, 2);
        found(t, 0);
        due("a select", 14, t.reads());
        t.join(0);
        due("a join", 10, t.reads());
        t.nearest(1, 2);
        due("a nearest", 11, t.reads());
        t.nearest(1, 17);
        t.select(2, 0, 0, 0);
        t.join(LEAST);
        due("refused ones", 11, t.reads());
        t.select(1, 0, 7, 7);
        due("no results, but reads", 2, t.reads());
        due("twice", 2, t.reads());
    }
}
