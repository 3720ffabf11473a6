/** Promises 4, 5, 6, 13 and 14, on rows: one method for each sentence that names a boundary. */
public final class RowBoundariesTest extends Scenes {
    private static final String LEAST_NUMBER = "with the least number that no row of it has: that number";
    private static final String INSERT_REFUSED =
        "-1, refused, if there is no such table, no focus, or it has 16 rows.";
    private static final String TAKES_OUT = "Takes a row out of a present table: true";
    private static final String UPDATE_REFUSED =
        "false, refused, if there is no such table or row, or move is true and there is no focus.";
    private static final int ALL = 0xffff;

    public static void main(String[] args) {
        emptyAtFirst();
        numbersOfRows();
        anyValue();
        leastNumber();
        leastNumberAfterRollback();
        focusAsGeometry();
        insertRefused();
        insertIntoFullTable();
        takesOut();
        takesOutTheLastOne();
        deleteRefused();
        valueAlone();
        valueAndFocus();
        updateRefused();
        moveWithoutFocus();
        valueOfARow();
        noValue();
        bitsOfRows();
        noRows();
        checks.end();
    }

    private static void emptyAtFirst() {
        says(TERMS, "those of the latest commit are kept besides (at first both are empty)");
        SpatialTables t = withRow(POINT, 5, 5);
        t.insert(1, 2);
        t.rollback();
        due("rolled back to nothing", 0, t.rows(0) | t.rows(1));
        t.insert(0, 1);
        t.crash();
        due("crashed to nothing", 0, t.rows(0) | t.rows(1));
        due("no nodes", 0, t.nodes(0) + t.nodes(1));
        due("nothing is changed", 0, t.commit(-1));
    }

    private static void numbersOfRows() {
        says(TERMS, "TABLES 0 and 1 have ROWS with numbers 0 .. 15");
        for (int table = 0; table < 2; table++) {
            SpatialTables t = withFocus(POINT, 9, 9);
            for (int row = 0; row < 16; row++) {
                due("row " + row, row, t.insert(table, 100 + row));
                due("rows up to " + row, (2 << row) - 1, t.rows(table));
                due("the other table", 0, t.rows(1 - table));
            }
            due("row 0", 100, t.value(table, 0));
            due("row 15", 115, t.value(table, 15));
            due("row 15 is measured", 0, t.measure(table, 15));
            due("row 15 is changed", true, t.update(table, 15, -1, true));
            due("row 15 has its value", -1, t.value(table, 15));
            due("row 15 goes", true, t.delete(table, 15));
            due("row 0 goes", true, t.delete(table, 0));
            due("the others stay", 0x7ffe, t.rows(table));
        }
    }

    private static void anyValue() {
        says(TERMS, "a row has a value (any int) and a geometry");
        int[] values = {0, 1, -1, LEAST, LEAST + 1, GREATEST, GREATEST - 1, 65536, -65537};
        SpatialTables t = withFocus(POINT, 9, 9);
        for (int value : values) {
            int row = t.insert(1, value);
            due("put in", value, t.value(1, row));
            due("changed", true, t.update(1, row, ~value, false));
            due("is changed", ~value, t.value(1, row));
            t.update(1, row, value, true);
            due("moved", value, t.value(1, row));
        }
        t.commit(-1);
        t.crash();
        for (int row = 0; row < values.length; row++) {
            due("committed", values[row], t.value(1, row));
        }
    }

    private static void leastNumber() {
        says("Promise 4", LEAST_NUMBER);
        SpatialTables t = withFocus(POINT, 9, 9);
        addRows(t, 0, 16);
        for (int gap = 0; gap < 16; gap++) {
            t.delete(0, gap);
            due("the only gap " + gap, gap, t.insert(0, 50 + gap));
            due("has the new value", 50 + gap, t.value(0, gap));
        }
        t.delete(0, 15);
        t.delete(0, 4);
        t.delete(0, 9);
        due("the first of three gaps", 4, t.insert(0, 1));
        due("the second one", 9, t.insert(0, 1));
        due("the last one", 15, t.insert(0, 1));
        due("the other table has numbers of its own", 0, t.insert(1, 1));
    }

    private static void leastNumberAfterRollback() {
        says("Promise 4", LEAST_NUMBER);
        SpatialTables t = withFocus(POINT, 9, 9);
        addRows(t, 0, 3);
        t.commit(-1);
        t.delete(0, 1);
        t.rollback();
        due("the gap is closed by the rollback", 3, t.insert(0, 1));
        t.rollback();
        due("the row is gone by the rollback", 3, t.insert(0, 1));
    }

    private static void focusAsGeometry() {
        says("Promise 4", "Puts a row with the value and the focus as its geometry into a present table");
        SpatialTables t = withRow(POINT, 9, 9);
        draw(t, LINE, 9, 12, 20, 12);
        due("the row stays where it was", 9, t.measure(0, 0));
        t.insert(0, 1);
        draw(t, AREA, 9, 14, 20, 14, 9, 20);
        due("the point stays", 25, t.measure(0, 0));
        due("the line stays", 4, t.measure(0, 1));
        t.insert(0, 1);
        t.insert(1, 1);
        due("the same focus twice", 0, t.measure(0, 2) + t.measure(1, 0));
        t.update(0, 0, 1, true);
        due("the line stays when another row moves", 4, t.measure(0, 1));
        t.vertex(1, 1);
        due("the draft is no focus", 0, t.measure(0, 2));
    }

    private static void insertRefused() {
        says("Promise 4", INSERT_REFUSED);
        SpatialTables t = new SpatialTables();
        due("no focus, table 0", -1, t.insert(0, 1));
        due("no focus, table 1", -1, t.insert(1, 1));
        t.vertex(5, 5);
        due("a draft is no focus", -1, t.insert(0, 1));
        t.shape(POINT);
        for (int table : NO_TABLES) {
            due("table " + table, -1, t.insert(table, 1));
        }
        due("nothing is put in", 0, t.rows(0) | t.rows(1));
        due("nothing is to be committed", 0, t.commit(-1));
        t.crash();
        due("no focus after a crash", -1, t.insert(0, 1));
    }

    private static void insertIntoFullTable() {
        says("Promise 4", INSERT_REFUSED);
        for (int table = 0; table < 2; table++) {
            SpatialTables t = withFocus(POINT, 9, 9);
            addRows(t, table, 15);
            due("the 16th", 15, t.insert(table, 7));
            draw(t, POINT, 200, 200);
            due("the 17th", -1, t.insert(table, 8));
            due("the 17th again", -1, t.insert(table, LEAST));
            due("the rows stay", ALL, t.rows(table));
            due("the nodes stay", 9, t.nodes(table));
            due("the last value stays", 7, t.value(table, 15));
            due("the other table has room", 0, t.insert(1 - table, 8));
            t.delete(table, 15);
            due("there is room again", 15, t.insert(table, 8));
        }
    }

    private static void takesOut() {
        says("Promise 5", TAKES_OUT);
        for (int row = 0; row < 16; row++) {
            SpatialTables t = withFocus(POINT, 9, 9);
            addRows(t, 0, 16);
            addRows(t, 1, 16);
            due("row " + row, true, t.delete(0, row));
            due("it is out", ALL ^ 1 << row, t.rows(0));
            due("its value is out", 0, t.value(0, row));
            due("its place is out", -1, t.measure(0, row));
            due("the other table stays", ALL, t.rows(1));
            due("15 are found", 15, t.select(0, 0, LEAST, GREATEST));
        }
        SpatialTables t = withRow(POINT, 9, 9);
        t.commit(-1);
        t.delete(0, 0);
        t.rollback();
        due("the commit has it still", 1, t.rows(0));
    }

    private static void takesOutTheLastOne() {
        says("Promise 5", TAKES_OUT);
        SpatialTables t = withRow(POINT, 9, 9);
        due("the only row", true, t.delete(0, 0));
        due("no rows", 0, t.rows(0));
        due("no nodes", 0, t.nodes(0));
        due("nothing to find", 0, t.select(0, GREATEST, LEAST, GREATEST));
        due("nothing near", 0, t.nearest(0, 1));
        due("nothing changed since the commit", 0, t.commit(-1));
        due("number 0 is free", 0, t.insert(0, 1));
    }

    private static void deleteRefused() {
        says("Promise 5", "false, refused, if there is no such table or row.");
        SpatialTables t = new SpatialTables();
        due("an empty table", false, t.delete(0, 0));
        due("another empty table", false, t.delete(1, 15));
        draw(t, POINT, 9, 9);
        addRows(t, 0, 15);
        for (int table : NO_TABLES) {
            due("table " + table, false, t.delete(table, 0));
        }
        for (int row : NO_ROWS) {
            due("row " + row, false, t.delete(0, row));
        }
        due("row 15 is not there", false, t.delete(0, 15));
        due("row 0 of the other table", false, t.delete(1, 0));
        due("nothing is taken out", 0x7fff, t.rows(0));
        t.delete(0, 6);
        due("twice", false, t.delete(0, 6));
    }

    private static void valueAlone() {
        says("Promise 6", "A row of a present table gets the value");
        SpatialTables t = withFocus(POINT, 9, 9);
        addRows(t, 1, 2);
        draw(t, POINT, 9, 19);
        due("without move", true, t.update(1, 0, 77, false));
        due("the value", 77, t.value(1, 0));
        due("the place stays", 100, t.measure(1, 0));
        due("the other row stays", 1, t.value(1, 1));
        due("the nodes stay", 9, t.nodes(1));
        due("the same value", true, t.update(1, 0, 77, false));
        due("is the same value", 77, t.value(1, 0));
        t.commit(-1);
        t.crash();
        due("without a focus", true, t.update(1, 0, 78, false));
        due("the value without a focus", 78, t.value(1, 0));
        t.rollback();
        due("the commit has the old one", 77, t.value(1, 0));
    }

    private static void valueAndFocus() {
        says("Promise 6", "the focus too, as its geometry, if move is true");
        SpatialTables t = withFocus(POINT, 9, 9);
        addRows(t, 0, 2);
        t.commit(-1);
        draw(t, LINE, 9, 19, 128, 19);
        due("with move", true, t.update(0, 1, 5, true));
        due("the value", 5, t.value(0, 1));
        due("the place", 0, t.measure(0, 1));
        due("the other row stays", 100, t.measure(0, 0));
        due("the home is the square of level 0", 9, t.nodes(0));
        due("the other one moves too", true, t.update(0, 0, 5, true));
        due("one home alone", 1, t.nodes(0));
        t.rollback();
        due("the commit has the old place", 100, t.measure(0, 0));
        due("and the old nodes", 9, t.nodes(0));
    }

    private static void updateRefused() {
        says("Promise 6", UPDATE_REFUSED);
        SpatialTables t = withRow(POINT, 9, 9);
        draw(t, POINT, 50, 50);
        for (boolean move : new boolean[] {false, true}) {
            for (int table : NO_TABLES) {
                due("table " + table, false, t.update(table, 0, 8, move));
            }
            for (int row : NO_ROWS) {
                due("row " + row, false, t.update(0, row, 8, move));
            }
            due("row 1 is not there", false, t.update(0, 1, 8, move));
            due("row 15 is not there", false, t.update(0, 15, 8, move));
            due("the other table is empty", false, t.update(1, 0, 8, move));
        }
        due("the value stays", 1, t.value(0, 0));
        due("the place stays", 41 * 41 * 2, t.measure(0, 0));
        due("no row comes", 1, t.rows(0));
        due("nor in the other table", 0, t.rows(1));
    }

    private static void moveWithoutFocus() {
        says("Promise 6", UPDATE_REFUSED);
        SpatialTables t = withRow(POINT, 9, 9);
        t.commit(-1);
        t.crash();
        due("no focus", false, t.update(0, 0, 8, true));
        due("the value stays", 1, t.value(0, 0));
        due("nothing is changed", 0, t.commit(-1));
        due("no row and no focus", false, t.update(0, 1, 8, true));
        draw(t, POINT, 9, 12);
        due("the place stays", 9, t.measure(0, 0));
        due("a focus", true, t.update(0, 0, 8, true));
    }

    private static void valueOfARow() {
        says("Promise 13", "The value of a row of a present table");
        SpatialTables t = withFocus(POINT, 9, 9);
        for (int i = 0; i < 32; i++) {
            t.insert(i / 16, 7 * i - 50);
        }
        for (int i = 0; i < 32; i++) {
            due("row " + i % 16 + " of table " + i / 16, 7 * i - 50, t.value(i / 16, i % 16));
        }
        t.commit(-1);
        t.update(1, 3, 1000, false);
        due("present, not committed", 1000, t.value(1, 3));
        t.rollback();
        due("committed", 7 * 19 - 50, t.value(1, 3));
    }

    private static void noValue() {
        says("Promise 13", "0 if there is no such table or row.");
        SpatialTables t = withFocus(POINT, 9, 9);
        for (int row = 0; row < 15; row++) {
            t.insert(0, 40 + row);
        }
        for (int table : NO_TABLES) {
            due("table " + table, 0, t.value(table, 0));
        }
        for (int row : NO_ROWS) {
            due("row " + row, 0, t.value(0, row));
        }
        due("row 15 is not there", 0, t.value(0, 15));
        due("the other table is empty", 0, t.value(1, 0));
        due("row 14 is there", 54, t.value(0, 14));
        t.delete(0, 14);
        due("row 14 is out", 0, t.value(0, 14));
        t.rollback();
        due("row 0 is rolled back", 0, t.value(0, 0));
    }

    private static void bitsOfRows() {
        says("Promise 14", "The rows of a present table: bit i is set if row i is there");
        SpatialTables t = withFocus(POINT, 9, 9);
        due("none", 0, t.rows(0));
        addRows(t, 0, 16);
        due("all", ALL, t.rows(0));
        for (int row = 0; row < 16; row++) {
            t.delete(0, row);
            due("without 0 .. " + row, ALL & -2 << row, t.rows(0));
        }
        addRows(t, 1, 2);
        t.commit(-1);
        t.delete(1, 0);
        due("present, not committed", 2, t.rows(1));
        t.rollback();
        due("committed", 3, t.rows(1));
    }

    private static void noRows() {
        says("Promise 14", "-1 if there is no such table.");
        for (int table : NO_TABLES) {
            due("table " + table, -1, new SpatialTables().rows(table));
            due("table " + table + ", with rows", -1, withRow(POINT, 9, 9).rows(table));
        }
    }
}
